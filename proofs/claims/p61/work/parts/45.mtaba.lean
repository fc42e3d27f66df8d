theorem dX11_recorded_0 : decode cX11_recorded 0 = .ok (.aload_n 0, 1) := by decide +kernel
theorem dX11_recorded_1 : decode cX11_recorded 1 = .ok (.getfield 9, 3) := by decide +kernel
theorem dX11_recorded_4 : decode cX11_recorded 4 = .ok (.sipush 568, 3) := by decide +kernel
theorem dX11_recorded_7 : decode cX11_recorded 7 = .ok (.iconst 5, 1) := by decide +kernel
theorem dX11_recorded_8 : decode cX11_recorded 8 = .ok (.iload_n 1, 1) := by decide +kernel
theorem dX11_recorded_9 : decode cX11_recorded 9 = .ok (.imul, 1) := by decide +kernel
theorem dX11_recorded_10 : decode cX11_recorded 10 = .ok (.iadd, 1) := by decide +kernel
theorem dX11_recorded_11 : decode cX11_recorded 11 = .ok (.iload_n 2, 1) := by decide +kernel
theorem dX11_recorded_12 : decode cX11_recorded 12 = .ok (.iadd, 1) := by decide +kernel
theorem dX11_recorded_13 : decode cX11_recorded 13 = .ok (.iaload, 1) := by decide +kernel
theorem dX11_recorded_14 : decode cX11_recorded 14 = .ok (.ireturn, 1) := by decide +kernel
set_option maxRecDepth 100000 in
set_option maxHeartbeats 4000000 in
theorem m_X11_recorded (l : Launch) (D : va_G) (ct : Nat → ClassId) (S : ty_S) (ws : va_W) (ph : va_W → Prop) (xx : Nat → Nat → Nat → Prop) (mo : Nat) (mw : Nat) (ma : Nat) (mf : Nat) (m0 : Nat) (m1 : Nat) (mu : Nat) (mv : Nat) (u0 : Nat) (u1 : Nat) (iz : Nat) (mb : Nat) (th : Int32) (mn : Int32) (mpt : Int32) (mbg : Int32) (mwr : Int32) (mwk : Int32) (mlf : Int32) (men : Int32) (f : Nat → Int32) (G : Nat → Int32) (cx : Int) (p1 : Int32) (p2 : Int32) (sz : Nat) (hT : ty_V ct S ph ws) (h_mu : S mu = some (.inr (1, 42))) (h_mv : S mv = some (.inr (1, 42))) (h_u0 : S u0 = some (.inr (1, 42))) (h_u1 : S u1 = some (.inr (1, 42))) (hph : ty_C ph xx) (hy1 : ty_y1 xx) (hR : rf_R G cx f) (hi0 : 0 ≤ p1.toInt ∧ p1.toInt ≤ 29) (hw : 0 ≤ p2.toInt ∧ p2.toInt ≤ 4) : Met l yX11_recorded (ws_ yX11_recorded cX11_recorded 3 (some .int)) ({ frames := 0, cells := 0, slots := 0, locals := 0 } : Room) (va_Pc [.ref mo, .int p1, .int p2] (cmP D ct sz ([(rf_MO mo mw ma mf m0 m1 mu mv u0 u1 iz th mb mn mpt mbg mwr mwk mlf men), (rf_RW ct 0 mw 958 f)] ++ ws))) (va_Qi (fun (r : Int32) (u9 : va_W) => ty_V ct S ph u9 ∧ r = (f (568 + 5 * p1.toInt.toNat + p2.toInt.toNat))) (cmB D ([(rf_MO mo mw ma mf m0 m1 mu mv u0 u1 iz th mb mn mpt mbg mwr mwk mlf men), (rf_RW ct 0 mw 958 f)] ++ ws) sz (fun (u9 : va_W) => ([(rf_MO mo mw ma mf m0 m1 mu mv u0 u1 iz th mb mn mpt mbg mwr mwk mlf men), (rf_RW ct 0 mw 958 f)] ++ u9))) (va_A ([(rf_MO mo mw ma mf m0 m1 mu mv u0 u1 iz th mb mn mpt mbg mwr mwk mlf men), (rf_RW ct 0 mw 958 f)] ++ ws) sz)) 0 0 (va_A ([(rf_MO mo mw ma mf m0 m1 mu mv u0 u1 iz th mb mn mpt mbg mwr mwk mlf men), (rf_RW ct 0 mw 958 f)] ++ ws) sz) := by
  refine Met.ofW (cc := cX11_recorded) (maxL := 3) (ret := (some .int)) (by decide) rfl ?_
  intro p e s m args below meth c s₁ B hml hv
  obtain ⟨rfl, hsz, hP, hK, hD0, hX⟩ := hv
  have hx := B.exec
  have hb := B.bytes
  have hr := B.returns
  have hts := ws_all (atoms_spec (ws := ws_ yX11_recorded cX11_recorded 3 (some .int)) B.pre)
  have hown : s.vm.findClass RX11 = some m.cls := findClass_of_methodNamed B.named
  have hlocks := B.notSynchronized
  subst hsz
  have hD := hD0.self (sz := s.heap.size)
  generalize hAe : va_A ([(rf_MO mo mw ma mf m0 m1 mu mv u0 u1 iz th mb mn mpt mbg mwr mwk mlf men), (rf_RW ct 0 mw 958 f)] ++ ws) s.heap.size = A at hD hX ⊢
  have hA : ∀ q : Nat, s.heap.size ≤ q → A q := fun q h => by rw [← hAe]; exact Or.inr h
  have hS : va_S A s.heap s.heap [] := va_S.rf
  have hl := lv_entry ([.ref mo, .int p1, .int p2]) (n := 3) (Nat.le_of_ble_eq_true rfl)
  rw [lg_entry_eq]
  generalize (lg_sl ([.ref mo, .int p1, .int p2]) ++ List.replicate (3 - (lg_sl ([.ref mo, .int p1, .int p2])).length) Slot.unset).toArray = ls at hl ⊢
  have hl : lv_has ls 3 [(0, .ref mo), (1, .int p1), (2, .int p2)] := hl
  refine lv_aload_n hx hb dX11_recorded_0 rfl (lv_at hl 0 rfl) ?_
  refine va_get (v := .ref mw) (D := D) (ci := 11) (C := RX11) (T := TX11) (N := 19) hx hb hts in_X11 hown hK hP 0 rfl rfl 0 (by decide) (hts _ kl_RX11_9) (fun _ h9 => h9) rfl dX11_recorded_1 ?_
  refine lv_sipush (v := 568) hx hb dX11_recorded_4 (by decide) ?_
  refine lv_iconst (v := 5) hx hb dX11_recorded_7 (by decide) ?_
  refine lv_iload_n hx hb dX11_recorded_8 rfl (lv_at hl 1 rfl) ?_
  refine lv_imul hx hb dX11_recorded_9 ?_
  refine lv_iadd hx hb dX11_recorded_10 ?_
  refine lv_iload_n hx hb dX11_recorded_11 rfl (lv_at hl 2 rfl) ?_
  refine lv_iadd hx hb dX11_recorded_12 ?_
  refine va_iald hx hb hK hP 1 0 rfl rfl (rf_rix (A := 568) (B := 5) (N := 29) (by decide) (by decide) hi0 (by omega) (by omega) (by omega) (by omega) (by omega) (by omega)) dX11_recorded_13 ?_
  exact W.iret (v := (f ((568 + (5 * p1)) + p2).toNatClampNeg)) hx hb hr (fun t ht hW => ⟨⟨(f ((568 + (5 * p1)) + p2).toNatClampNeg), ws, rfl, ⟨hT, (congrArg f (rf_nat (rf_rixe hi0 hw)))⟩, by rw [ht]; exact hP, by rw [hAe]; exact hD⟩, hS.F ht⟩) hS.2.2 dX11_recorded_14
theorem dX11_isCounting_0 : decode cX11_isCounting 0 = .ok (.aload_n 0, 1) := by decide +kernel
theorem dX11_isCounting_1 : decode cX11_isCounting 1 = .ok (.iload_n 1, 1) := by decide +kernel
theorem dX11_isCounting_2 : decode cX11_isCounting 2 = .ok (.iconst 0, 1) := by decide +kernel
theorem dX11_isCounting_3 : decode cX11_isCounting 3 = .ok (.invokevirtual 369, 3) := by decide +kernel
theorem dX11_isCounting_6 : decode cX11_isCounting 6 = .ok (.iload_n 2, 1) := by decide +kernel
theorem dX11_isCounting_7 : decode cX11_isCounting 7 = .ok (.if_icmp .ne 17, 3) := by decide +kernel
theorem dX11_isCounting_10 : decode cX11_isCounting 10 = .ok (.aload_n 0, 1) := by decide +kernel
theorem dX11_isCounting_11 : decode cX11_isCounting 11 = .ok (.iload_n 1, 1) := by decide +kernel
theorem dX11_isCounting_12 : decode cX11_isCounting 12 = .ok (.iconst 4, 1) := by decide +kernel
theorem dX11_isCounting_13 : decode cX11_isCounting 13 = .ok (.invokevirtual 369, 3) := by decide +kernel
theorem dX11_isCounting_16 : decode cX11_isCounting 16 = .ok (.iconst 1, 1) := by decide +kernel
theorem dX11_isCounting_17 : decode cX11_isCounting 17 = .ok (.if_icmp .ne 7, 3) := by decide +kernel
theorem dX11_isCounting_20 : decode cX11_isCounting 20 = .ok (.iconst 1, 1) := by decide +kernel
theorem dX11_isCounting_21 : decode cX11_isCounting 21 = .ok (.goto 4, 3) := by decide +kernel
theorem dX11_isCounting_24 : decode cX11_isCounting 24 = .ok (.iconst 0, 1) := by decide +kernel
theorem dX11_isCounting_25 : decode cX11_isCounting 25 = .ok (.ireturn, 1) := by decide +kernel
set_option maxRecDepth 100000 in
set_option maxHeartbeats 4000000 in
theorem m_X11_isCounting (l : Launch) (D : va_G) (ct : Nat → ClassId) (S : ty_S) (ws : va_W) (ph : va_W → Prop) (xx : Nat → Nat → Nat → Prop) (mo : Nat) (mw : Nat) (ma : Nat) (mf : Nat) (m0 : Nat) (m1 : Nat) (mu : Nat) (mv : Nat) (u0 : Nat) (u1 : Nat) (iz : Nat) (mb : Nat) (th : Int32) (mn : Int32) (mpt : Int32) (mbg : Int32) (mwr : Int32) (mwk : Int32) (mlf : Int32) (men : Int32) (f : Nat → Int32) (G : Nat → Int32) (cx : Int) (p1 : Int32) (p2 : Int32) (sz : Nat) (hT : ty_V ct S ph ws) (h_mu : S mu = some (.inr (1, 42))) (h_mv : S mv = some (.inr (1, 42))) (h_u0 : S u0 = some (.inr (1, 42))) (h_u1 : S u1 = some (.inr (1, 42))) (hph : ty_C ph xx) (hy1 : ty_y1 xx) (hR : rf_R G cx f) (hi0 : 0 ≤ p1.toInt ∧ p1.toInt ≤ 29) : Met l yX11_isCounting (ws_ yX11_isCounting cX11_isCounting 3 (some .boolean)) ({ frames := 1, cells := 0, slots := 0, locals := 22 } : Room) (va_Pc [.ref mo, .int p1, .int p2] (cmP D ct sz ([(rf_MO mo mw ma mf m0 m1 mu mv u0 u1 iz th mb mn mpt mbg mwr mwk mlf men), (rf_RW ct 0 mw 958 f)] ++ ws))) (va_Qi (fun (r : Int32) (u9 : va_W) => ty_V ct S ph u9) (cmB D ([(rf_MO mo mw ma mf m0 m1 mu mv u0 u1 iz th mb mn mpt mbg mwr mwk mlf men), (rf_RW ct 0 mw 958 f)] ++ ws) sz (fun (u9 : va_W) => ([(rf_MO mo mw ma mf m0 m1 mu mv u0 u1 iz th mb mn mpt mbg mwr mwk mlf men), (rf_RW ct 0 mw 958 f)] ++ u9))) (va_A ([(rf_MO mo mw ma mf m0 m1 mu mv u0 u1 iz th mb mn mpt mbg mwr mwk mlf men), (rf_RW ct 0 mw 958 f)] ++ ws) sz)) 0 0 (va_A ([(rf_MO mo mw ma mf m0 m1 mu mv u0 u1 iz th mb mn mpt mbg mwr mwk mlf men), (rf_RW ct 0 mw 958 f)] ++ ws) sz) := by
  refine Met.ofW (cc := cX11_isCounting) (maxL := 3) (ret := (some .boolean)) (by decide) rfl ?_
  intro p e s m args below meth c s₁ B hml hv
  obtain ⟨rfl, hsz, hP, hK, hD0, hX⟩ := hv
  have hx := B.exec
  have hb := B.bytes
  have hr := B.returns
  have hts := ws_all (atoms_spec (ws := ws_ yX11_isCounting cX11_isCounting 3 (some .boolean)) B.pre)
  have hown : s.vm.findClass RX11 = some m.cls := findClass_of_methodNamed B.named
  have hlocks := B.notSynchronized
  subst hsz
  have hD := hD0.self (sz := s.heap.size)
  generalize hAe : va_A ([(rf_MO mo mw ma mf m0 m1 mu mv u0 u1 iz th mb mn mpt mbg mwr mwk mlf men), (rf_RW ct 0 mw 958 f)] ++ ws) s.heap.size = A at hD hX ⊢
  have hA : ∀ q : Nat, s.heap.size ≤ q → A q := fun q h => by rw [← hAe]; exact Or.inr h
  have hS : va_S A s.heap s.heap [] := va_S.rf
  have hl := lv_entry ([.ref mo, .int p1, .int p2]) (n := 3) (Nat.le_of_ble_eq_true rfl)
  rw [lg_entry_eq]
  generalize (lg_sl ([.ref mo, .int p1, .int p2]) ++ List.replicate (3 - (lg_sl ([.ref mo, .int p1, .int p2])).length) Slot.unset).toArray = ls at hl ⊢
  have hl : lv_has ls 3 [(0, .ref mo), (1, .int p1), (2, .int p2)] := hl
  refine lv_aload_n hx hb dX11_isCounting_0 rfl (lv_at hl 0 rfl) ?_
  refine lv_iload_n hx hb dX11_isCounting_1 rfl (lv_at hl 1 rfl) ?_
  refine lv_iconst (v := 0) hx hb dX11_isCounting_2 (by decide) ?_
  refine ty_ki (wr := []) (wc := ([(rf_MO mo mw ma mf m0 m1 mu mv u0 u1 iz th mb mn mpt mbg mwr mwk mlf men), (rf_RW ct 0 mw 958 f)] ++ ws)) (va_runV (As := [.int p1, .int 0]) (rest := []) ⟨hx, hb, hml, hown, hts⟩ (m_X11_recorded l D ct S ws ph xx mo mw ma mf m0 m1 mu mv u0 u1 iz mb th mn mpt mbg mwr mwk mlf men f G cx p1 (0 : Int32) _ hT h_mu h_mv h_u0 h_u1 hph hy1 hR hi0 (by decide)) (cm_V 2 hts kc_X11_recorded ki_RX11 kl_RX11_369 kv_X11_recorded kx_X11_recorded kd_X11_recorded ⟨Nat.le_of_ble_eq_true rfl, Nat.le_of_ble_eq_true rfl⟩) (ty_preE (wr := []) (wc := ([(rf_MO mo mw ma mf m0 m1 mu mv u0 u1 iz th mb mn mpt mbg mwr mwk mlf men), (rf_RW ct 0 mw 958 f)] ++ ws)) (ci := 11) (q0 := 0) hP hK hD hS hA hX rfl rfl) rfl rfl hl.1 rfl (lv_room (Nat.le_of_ble_eq_true rfl)) dX11_isCounting_3 ⟨Nat.le_of_ble_eq_true rfl, Nat.le_of_ble_eq_true rfl⟩) hP hD hS hA (fun r_1 u H locs hw_2 hP hD hS => ?_)
  obtain ⟨ws_3, rfl⟩ : ∃ z, z = u := ⟨_, rfl⟩
  obtain ⟨hT, rfl⟩ := hw_2
  have hP : va_P D vwCl ([(rf_MO mo mw ma mf m0 m1 mu mv u0 u1 iz th mb mn mpt mbg mwr mwk mlf men), (rf_RW ct 0 mw 958 f)] ++ ws_3) H := hP
  have hD : va_D A ([(rf_MO mo mw ma mf m0 m1 mu mv u0 u1 iz th mb mn mpt mbg mwr mwk mlf men), (rf_RW ct 0 mw 958 f)] ++ ws_3) := hD
  refine lv_iload_n hx hb dX11_isCounting_6 rfl (lv_at hl 2 rfl) ?_
  refine lv_icmp_ne (tgt := 24) hx hb dX11_isCounting_7 (by decide) (fun hc_4 => ?_) (fun hc_4 => ?_)
  · refine lv_iconst (v := 0) hx hb dX11_isCounting_24 (by decide) ?_
    exact W.zret (v := 0) hx hb hr (by decide) (fun t ht hW => ⟨⟨0, ws_3, rfl, hT, by rw [ht]; exact hP, by rw [hAe]; exact hD⟩, hS.F ht⟩) hS.2.2 dX11_isCounting_25
  · refine lv_aload_n hx hb dX11_isCounting_10 rfl (lv_at hl 0 rfl) ?_
    refine lv_iload_n hx hb dX11_isCounting_11 rfl (lv_at hl 1 rfl) ?_
    refine lv_iconst (v := 4) hx hb dX11_isCounting_12 (by decide) ?_
    refine ty_ki (wr := []) (wc := ([(rf_MO mo mw ma mf m0 m1 mu mv u0 u1 iz th mb mn mpt mbg mwr mwk mlf men), (rf_RW ct 0 mw 958 f)] ++ ws_3)) (va_runV (As := [.int p1, .int 4]) (rest := []) ⟨hx, hb, hml, hown, hts⟩ (m_X11_recorded l D ct S ws_3 ph xx mo mw ma mf m0 m1 mu mv u0 u1 iz mb th mn mpt mbg mwr mwk mlf men f G cx p1 (4 : Int32) _ hT h_mu h_mv h_u0 h_u1 hph hy1 hR hi0 (by decide)) (cm_V 2 hts kc_X11_recorded ki_RX11 kl_RX11_369 kv_X11_recorded kx_X11_recorded kd_X11_recorded ⟨Nat.le_of_ble_eq_true rfl, Nat.le_of_ble_eq_true rfl⟩) (ty_preE (wr := []) (wc := ([(rf_MO mo mw ma mf m0 m1 mu mv u0 u1 iz th mb mn mpt mbg mwr mwk mlf men), (rf_RW ct 0 mw 958 f)] ++ ws_3)) (ci := 11) (q0 := 0) hP hK hD hS hA hX rfl rfl) rfl rfl hl.1 rfl (lv_room (Nat.le_of_ble_eq_true rfl)) dX11_isCounting_13 ⟨Nat.le_of_ble_eq_true rfl, Nat.le_of_ble_eq_true rfl⟩) hP hD hS hA (fun r_5 u H locs hw_6 hP hD hS => ?_)
    obtain ⟨ws_7, rfl⟩ : ∃ z, z = u := ⟨_, rfl⟩
    obtain ⟨hT, rfl⟩ := hw_6
    have hP : va_P D vwCl ([(rf_MO mo mw ma mf m0 m1 mu mv u0 u1 iz th mb mn mpt mbg mwr mwk mlf men), (rf_RW ct 0 mw 958 f)] ++ ws_7) H := hP
    have hD : va_D A ([(rf_MO mo mw ma mf m0 m1 mu mv u0 u1 iz th mb mn mpt mbg mwr mwk mlf men), (rf_RW ct 0 mw 958 f)] ++ ws_7) := hD
    refine lv_iconst (v := 1) hx hb dX11_isCounting_16 (by decide) ?_
    refine lv_icmp_ne (tgt := 24) hx hb dX11_isCounting_17 (by decide) (fun hc_8 => ?_) (fun hc_8 => ?_)
    · refine lv_iconst (v := 0) hx hb dX11_isCounting_24 (by decide) ?_
      exact W.zret (v := 0) hx hb hr (by decide) (fun t ht hW => ⟨⟨0, ws_7, rfl, hT, by rw [ht]; exact hP, by rw [hAe]; exact hD⟩, hS.F ht⟩) hS.2.2 dX11_isCounting_25
    · refine lv_iconst (v := 1) hx hb dX11_isCounting_20 (by decide) ?_
      refine lv_goto (tgt := 25) hx hb dX11_isCounting_21 (by decide) ?_
      exact W.zret (v := 1) hx hb hr (by decide) (fun t ht hW => ⟨⟨1, ws_7, rfl, hT, by rw [ht]; exact hP, by rw [hAe]; exact hD⟩, hS.F ht⟩) hS.2.2 dX11_isCounting_25
theorem dX11_counting_0 : decode cX11_counting 0 = .ok (.aload_n 0, 1) := by decide +kernel
theorem dX11_counting_1 : decode cX11_counting 1 = .ok (.iload_n 1, 1) := by decide +kernel
theorem dX11_counting_2 : decode cX11_counting 2 = .ok (.invokevirtual 344, 3) := by decide +kernel
theorem dX11_counting_5 : decode cX11_counting 5 = .ok (.ifCond .eq 5, 3) := by decide +kernel
theorem dX11_counting_8 : decode cX11_counting 8 = .ok (.iconst 0, 1) := by decide +kernel
theorem dX11_counting_9 : decode cX11_counting 9 = .ok (.ireturn, 1) := by decide +kernel
theorem dX11_counting_10 : decode cX11_counting 10 = .ok (.iconst 0, 1) := by decide +kernel
theorem dX11_counting_11 : decode cX11_counting 11 = .ok (.istore_n 2, 1) := by decide +kernel
theorem dX11_counting_12 : decode cX11_counting 12 = .ok (.iconst 0, 1) := by decide +kernel
theorem dX11_counting_13 : decode cX11_counting 13 = .ok (.istore_n 3, 1) := by decide +kernel
theorem dX11_counting_14 : decode cX11_counting 14 = .ok (.iload_n 3, 1) := by decide +kernel
theorem dX11_counting_15 : decode cX11_counting 15 = .ok (.aload_n 0, 1) := by decide +kernel
theorem dX11_counting_16 : decode cX11_counting 16 = .ok (.getfield 9, 3) := by decide +kernel
theorem dX11_counting_19 : decode cX11_counting 19 = .ok (.bipush 12, 2) := by decide +kernel
theorem dX11_counting_21 : decode cX11_counting 21 = .ok (.iaload, 1) := by decide +kernel
theorem dX11_counting_22 : decode cX11_counting 22 = .ok (.if_icmp .ge 26, 3) := by decide +kernel
theorem dX11_counting_25 : decode cX11_counting 25 = .ok (.iload_n 2, 1) := by decide +kernel
theorem dX11_counting_26 : decode cX11_counting 26 = .ok (.aload_n 0, 1) := by decide +kernel
theorem dX11_counting_27 : decode cX11_counting 27 = .ok (.iload_n 3, 1) := by decide +kernel
theorem dX11_counting_28 : decode cX11_counting 28 = .ok (.iload_n 1, 1) := by decide +kernel
theorem dX11_counting_29 : decode cX11_counting 29 = .ok (.invokevirtual 372, 3) := by decide +kernel
theorem dX11_counting_32 : decode cX11_counting 32 = .ok (.ifCond .eq 7, 3) := by decide +kernel
theorem dX11_counting_35 : decode cX11_counting 35 = .ok (.iconst 1, 1) := by decide +kernel
theorem dX11_counting_36 : decode cX11_counting 36 = .ok (.goto 4, 3) := by decide +kernel
theorem dX11_counting_39 : decode cX11_counting 39 = .ok (.iconst 0, 1) := by decide +kernel
theorem dX11_counting_40 : decode cX11_counting 40 = .ok (.iadd, 1) := by decide +kernel
theorem dX11_counting_41 : decode cX11_counting 41 = .ok (.istore_n 2, 1) := by decide +kernel
theorem dX11_counting_42 : decode cX11_counting 42 = .ok (.iinc 3 1, 3) := by decide +kernel
theorem dX11_counting_45 : decode cX11_counting 45 = .ok (.goto (-31), 3) := by decide +kernel
theorem dX11_counting_48 : decode cX11_counting 48 = .ok (.iload_n 2, 1) := by decide +kernel
theorem dX11_counting_49 : decode cX11_counting 49 = .ok (.ireturn, 1) := by decide +kernel
set_option maxRecDepth 100000 in
set_option maxHeartbeats 4000000 in
theorem m_X11_counting (l : Launch) (D : va_G) (ct : Nat → ClassId) (S : ty_S) (ws : va_W) (ph : va_W → Prop) (xx : Nat → Nat → Nat → Prop) (mo : Nat) (mw : Nat) (ma : Nat) (mf : Nat) (m0 : Nat) (m1 : Nat) (mu : Nat) (mv : Nat) (u0 : Nat) (u1 : Nat) (iz : Nat) (mb : Nat) (th : Int32) (mn : Int32) (mpt : Int32) (mbg : Int32) (mwr : Int32) (mwk : Int32) (mlf : Int32) (men : Int32) (f : Nat → Int32) (G : Nat → Int32) (cx : Int) (p1 : Int32) (sz : Nat) (hT : ty_V ct S ph ws) (h_mu : S mu = some (.inr (1, 42))) (h_mv : S mv = some (.inr (1, 42))) (h_u0 : S u0 = some (.inr (1, 42))) (h_u1 : S u1 = some (.inr (1, 42))) (hph : ty_C ph xx) (hy1 : ty_y1 xx) (hR : rf_R G cx f) : Met l yX11_counting (ws_ yX11_counting cX11_counting 4 (some .int)) ({ frames := 2, cells := 0, slots := 0, locals := 46 } : Room) (va_Pc [.ref mo, .int p1] (cmP D ct sz ([(rf_MO mo mw ma mf m0 m1 mu mv u0 u1 iz th mb mn mpt mbg mwr mwk mlf men), (rf_RW ct 0 mw 958 f)] ++ ws))) (va_Qi (fun (r : Int32) (u : va_W × Int32) => match u with | (u9, th1) => ty_V ct S ph u9) (cmB D ([(rf_MO mo mw ma mf m0 m1 mu mv u0 u1 iz th mb mn mpt mbg mwr mwk mlf men), (rf_RW ct 0 mw 958 f)] ++ ws) sz (fun (u : va_W × Int32) => match u with | (u9, th1) => ([(rf_MO mo mw ma mf m0 m1 mu mv u0 u1 iz th1 mb mn mpt mbg mwr mwk mlf men), (rf_RW ct 0 mw 958 f)] ++ u9))) (va_A ([(rf_MO mo mw ma mf m0 m1 mu mv u0 u1 iz th mb mn mpt mbg mwr mwk mlf men), (rf_RW ct 0 mw 958 f)] ++ ws) sz)) 0 0 (va_A ([(rf_MO mo mw ma mf m0 m1 mu mv u0 u1 iz th mb mn mpt mbg mwr mwk mlf men), (rf_RW ct 0 mw 958 f)] ++ ws) sz) := by
  refine Met.ofW (cc := cX11_counting) (maxL := 4) (ret := (some .int)) (by decide) rfl ?_
  intro p e s m args below meth c s₁ B hml hv
  obtain ⟨rfl, hsz, hP, hK, hD0, hX⟩ := hv
  have hx := B.exec
  have hb := B.bytes
  have hr := B.returns
  have hts := ws_all (atoms_spec (ws := ws_ yX11_counting cX11_counting 4 (some .int)) B.pre)
  have hown : s.vm.findClass RX11 = some m.cls := findClass_of_methodNamed B.named
  have hlocks := B.notSynchronized
  subst hsz
  have hD := hD0.self (sz := s.heap.size)
  generalize hAe : va_A ([(rf_MO mo mw ma mf m0 m1 mu mv u0 u1 iz th mb mn mpt mbg mwr mwk mlf men), (rf_RW ct 0 mw 958 f)] ++ ws) s.heap.size = A at hD hX ⊢
  have hA : ∀ q : Nat, s.heap.size ≤ q → A q := fun q h => by rw [← hAe]; exact Or.inr h
  have hS : va_S A s.heap s.heap [] := va_S.rf
  have hl := lv_entry ([.ref mo, .int p1]) (n := 4) (Nat.le_of_ble_eq_true rfl)
  rw [lg_entry_eq]
  generalize (lg_sl ([.ref mo, .int p1]) ++ List.replicate (4 - (lg_sl ([.ref mo, .int p1])).length) Slot.unset).toArray = ls at hl ⊢
  have hl : lv_has ls 4 [(0, .ref mo), (1, .int p1)] := hl
  refine lv_aload_n hx hb dX11_counting_0 rfl (lv_at hl 0 rfl) ?_
  refine lv_iload_n hx hb dX11_counting_1 rfl (lv_at hl 1 rfl) ?_
  refine ty_ki (wr := []) (wc := ([(rf_MO mo mw ma mf m0 m1 mu mv u0 u1 iz th mb mn mpt mbg mwr mwk mlf men), (rf_RW ct 0 mw 958 f)] ++ ws)) (va_runV (As := [.int p1]) (rest := []) ⟨hx, hb, hml, hown, hts⟩ (m_X11_noChannel l D ct S ws ph xx mo mw ma mf m0 m1 mu mv u0 u1 iz mb th mn mpt mbg mwr mwk mlf men f G cx p1 _ hT h_mu h_mv h_u0 h_u1 hph hy1 hR) (cm_V 1 hts kc_X11_noChannel ki_RX11 kl_RX11_344 kv_X11_noChannel kx_X11_noChannel kd_X11_noChannel ⟨Nat.le_of_ble_eq_true rfl, Nat.le_of_ble_eq_true rfl⟩) (ty_preE (wr := []) (wc := ([(rf_MO mo mw ma mf m0 m1 mu mv u0 u1 iz th mb mn mpt mbg mwr mwk mlf men), (rf_RW ct 0 mw 958 f)] ++ ws)) (ci := 11) (q0 := 0) hP hK hD hS hA hX rfl rfl) rfl rfl hl.1 rfl (lv_room (Nat.le_of_ble_eq_true rfl)) dX11_counting_2 ⟨Nat.le_of_ble_eq_true rfl, Nat.le_of_ble_eq_true rfl⟩) hP hD hS hA (fun r_1 u H locs hw_2 hP hD hS => ?_)
  obtain ⟨ws_3, th1_4⟩ := u
  obtain ⟨hT, hp_5⟩ := hw_2
  have hp_5 : ((r_1 = 0 ∧ 0 ≤ p1.toInt ∧ p1.toInt < (G 9).toInt) ∨ r_1 = 1) := hp_5
  have hP : va_P D vwCl ([(rf_MO mo mw ma mf m0 m1 mu mv u0 u1 iz th1_4 mb mn mpt mbg mwr mwk mlf men), (rf_RW ct 0 mw 958 f)] ++ ws_3) H := hP
  have hD : va_D A ([(rf_MO mo mw ma mf m0 m1 mu mv u0 u1 iz th1_4 mb mn mpt mbg mwr mwk mlf men), (rf_RW ct 0 mw 958 f)] ++ ws_3) := hD
  rcases hp_5 with ⟨rfl, hz_6⟩ | rfl
  · refine lv_if_eq (tgt := 10) hx hb dX11_counting_5 (by decide) (fun _ => ?_) (fun hc => absurd (by decide) hc)
    refine lv_iconst (v := 0) hx hb dX11_counting_10 (by decide) ?_
    refine lv_istore_n (lv' := [(2, .int 0), (0, .ref mo), (1, .int p1)]) hx hb dX11_counting_11 rfl hl (by decide) rfl (fun ls hl => ?_)
    refine lv_iconst (v := 0) hx hb dX11_counting_12 (by decide) ?_
    refine lv_istore_n (lv' := [(3, .int 0), (2, .int 0), (0, .ref mo), (1, .int p1)]) hx hb dX11_counting_13 rfl hl (by decide) rfl (fun ls hl => ?_)
    refine ty_loop (I := fun μ H locs ls => ∃ (ws : va_W) (y_7 : Int32) (y_8 : Int32), μ = (2147483648 - y_8.toInt).toNat ∧ ty_V ct S ph ws ∧ va_P D vwCl ([(rf_MO mo mw ma mf m0 m1 mu mv u0 u1 iz th1_4 mb mn mpt mbg mwr mwk mlf men), (rf_RW ct 0 mw 958 f)] ++ ws) H ∧ va_D A ([(rf_MO mo mw ma mf m0 m1 mu mv u0 u1 iz th1_4 mb mn mpt mbg mwr mwk mlf men), (rf_RW ct 0 mw 958 f)] ++ ws) ∧ va_S A s.heap H locs ∧ lv_has ls 4 [(0, .ref mo), (1, .int p1), (2, .int y_7), (3, .int y_8)] ∧ 0 ≤ y_8.toInt) ⟨_, ws_3, (0 : Int32), (0 : Int32), rfl, hT, hP, hD, hS, (lv_sub hl [2, 3, 1, 0] rfl), (by decide)⟩ (fun μ H locs ls hI ih_14 => ?_)
    obtain ⟨ws, y_7, y_8, rfl, hT, hP, hD, hS, hl, hex_14⟩ := hI
    refine lv_iload_n hx hb dX11_counting_14 rfl (lv_at hl 3 rfl) ?_
    refine lv_aload_n hx hb dX11_counting_15 rfl (lv_at hl 0 rfl) ?_
    refine va_get (v := .ref mw) (D := D) (ci := 11) (C := RX11) (T := TX11) (N := 19) hx hb hts in_X11 hown hK hP 0 rfl rfl 0 (by decide) (hts _ kl_RX11_9) (fun _ h9 => h9) rfl dX11_counting_16 ?_
    refine lv_bipush (v := 12) hx hb dX11_counting_19 (by decide) ?_
    refine va_iald hx hb hK hP 1 0 rfl rfl (cm_vin (by decide)) dX11_counting_21 ?_
    refine cm_cst (y := (f 12)) (by first | rfl | decide +kernel) ?_
    refine lv_icmp_ge (tgt := 48) hx hb dX11_counting_22 (by decide) (fun hc_9 => ?_) (fun hc_9 => ?_)
    · refine lv_iload_n hx hb dX11_counting_48 rfl (lv_at hl 2 rfl) ?_
      exact W.iret (v := y_7) hx hb hr (fun t ht hW => ⟨⟨y_7, (ws, th1_4), rfl, hT, by rw [ht]; exact hP, by rw [hAe]; exact hD⟩, hS.F ht⟩) hS.2.2 dX11_counting_49
    · refine lv_iload_n hx hb dX11_counting_25 rfl (lv_at hl 2 rfl) ?_
      refine lv_aload_n hx hb dX11_counting_26 rfl (lv_at hl 0 rfl) ?_
      refine lv_iload_n hx hb dX11_counting_27 rfl (lv_at hl 3 rfl) ?_
      refine lv_iload_n hx hb dX11_counting_28 rfl (lv_at hl 1 rfl) ?_
      refine ty_ki (wr := []) (wc := ([(rf_MO mo mw ma mf m0 m1 mu mv u0 u1 iz th1_4 mb mn mpt mbg mwr mwk mlf men), (rf_RW ct 0 mw 958 f)] ++ ws)) (va_runV (As := [.int y_8, .int p1]) (rest := [.int y_7]) ⟨hx, hb, hml, hown, hts⟩ (m_X11_isCounting l D ct S ws ph xx mo mw ma mf m0 m1 mu mv u0 u1 iz mb th1_4 mn mpt mbg mwr mwk mlf men f G cx y_8 p1 _ hT h_mu h_mv h_u0 h_u1 hph hy1 hR (by have := hex_14; have := hR.2.2.1.1; have := rf_ylt rfl hc_9; omega)) (cm_V 2 hts kc_X11_isCounting ki_RX11 kl_RX11_372 kv_X11_isCounting kx_X11_isCounting kd_X11_isCounting ⟨Nat.le_of_ble_eq_true rfl, Nat.le_of_ble_eq_true rfl⟩) (ty_preE (wr := []) (wc := ([(rf_MO mo mw ma mf m0 m1 mu mv u0 u1 iz th1_4 mb mn mpt mbg mwr mwk mlf men), (rf_RW ct 0 mw 958 f)] ++ ws)) (ci := 11) (q0 := 0) hP hK hD hS hA hX rfl rfl) rfl rfl hl.1 rfl (lv_room (Nat.le_of_ble_eq_true rfl)) dX11_counting_29 ⟨Nat.le_of_ble_eq_true rfl, Nat.le_of_ble_eq_true rfl⟩) hP hD hS hA (fun r_10 u H locs hw_11 hP hD hS => ?_)
      obtain ⟨ws_12, rfl⟩ : ∃ z, z = u := ⟨_, rfl⟩
      have hT := hw_11
      have hP : va_P D vwCl ([(rf_MO mo mw ma mf m0 m1 mu mv u0 u1 iz th1_4 mb mn mpt mbg mwr mwk mlf men), (rf_RW ct 0 mw 958 f)] ++ ws_12) H := hP
      have hD : va_D A ([(rf_MO mo mw ma mf m0 m1 mu mv u0 u1 iz th1_4 mb mn mpt mbg mwr mwk mlf men), (rf_RW ct 0 mw 958 f)] ++ ws_12) := hD
      refine lv_if_eq (tgt := 39) hx hb dX11_counting_32 (by decide) (fun hc_13 => ?_) (fun hc_13 => ?_)
      · refine lv_iconst (v := 0) hx hb dX11_counting_39 (by decide) ?_
        refine lv_iadd hx hb dX11_counting_40 ?_
        refine lv_topi (fun x_14 _ => ?_)
        refine lv_istore_n (lv' := [(2, .int x_14), (0, .ref mo), (1, .int p1), (3, .int y_8)]) hx hb dX11_counting_41 rfl hl (by decide) rfl (fun ls hl => ?_)
        refine lv_iinc (v := (y_8 + Int32.ofInt 1)) (lv' := [(3, .int (y_8 + Int32.ofInt 1)), (2, .int x_14), (0, .ref mo), (1, .int p1)]) hx hb dX11_counting_42 hl (k := 3) rfl rfl (by decide) rfl (fun ls hl => ?_)
        refine lv_goto (tgt := 14) hx hb dX11_counting_45 (by decide) ?_
        exact ih_14 _ _ _ _ (ty_inc (cm_lt hc_9)) ⟨ws_12, x_14, (y_8 + Int32.ofInt 1), rfl, hT, hP, hD, hS, (lv_sub hl [2, 3, 1, 0] rfl), (ty_nn hex_14 (cm_lt hc_9))⟩
      · refine lv_iconst (v := 1) hx hb dX11_counting_35 (by decide) ?_
        refine lv_goto (tgt := 40) hx hb dX11_counting_36 (by decide) ?_
        refine lv_iadd hx hb dX11_counting_40 ?_
        refine lv_topi (fun x_15 _ => ?_)
        refine lv_istore_n (lv' := [(2, .int x_15), (0, .ref mo), (1, .int p1), (3, .int y_8)]) hx hb dX11_counting_41 rfl hl (by decide) rfl (fun ls hl => ?_)
        refine lv_iinc (v := (y_8 + Int32.ofInt 1)) (lv' := [(3, .int (y_8 + Int32.ofInt 1)), (2, .int x_15), (0, .ref mo), (1, .int p1)]) hx hb dX11_counting_42 hl (k := 3) rfl rfl (by decide) rfl (fun ls hl => ?_)
        refine lv_goto (tgt := 14) hx hb dX11_counting_45 (by decide) ?_
        exact ih_14 _ _ _ _ (ty_inc (cm_lt hc_9)) ⟨ws_12, x_15, (y_8 + Int32.ofInt 1), rfl, hT, hP, hD, hS, (lv_sub hl [2, 3, 1, 0] rfl), (ty_nn hex_14 (cm_lt hc_9))⟩
  · refine lv_if_eq (tgt := 10) hx hb dX11_counting_5 (by decide) (fun hc => absurd hc (by decide)) (fun _ => ?_)
    refine lv_iconst (v := 0) hx hb dX11_counting_8 (by decide) ?_
    exact W.iret (v := 0) hx hb hr (fun t ht hW => ⟨⟨0, (ws_3, th1_4), rfl, hT, by rw [ht]; exact hP, by rw [hAe]; exact hD⟩, hS.F ht⟩) hS.2.2 dX11_counting_9
theorem dX11_recordCount_0 : decode cX11_recordCount 0 = .ok (.aload_n 0, 1) := by decide +kernel
theorem dX11_recordCount_1 : decode cX11_recordCount 1 = .ok (.iconst 0, 1) := by decide +kernel
theorem dX11_recordCount_2 : decode cX11_recordCount 2 = .ok (.putfield 49, 3) := by decide +kernel
theorem dX11_recordCount_5 : decode cX11_recordCount 5 = .ok (.aload_n 0, 1) := by decide +kernel
theorem dX11_recordCount_6 : decode cX11_recordCount 6 = .ok (.getfield 9, 3) := by decide +kernel
theorem dX11_recordCount_9 : decode cX11_recordCount 9 = .ok (.bipush 12, 2) := by decide +kernel
theorem dX11_recordCount_11 : decode cX11_recordCount 11 = .ok (.iaload, 1) := by decide +kernel
theorem dX11_recordCount_12 : decode cX11_recordCount 12 = .ok (.ireturn, 1) := by decide +kernel
set_option maxRecDepth 100000 in
set_option maxHeartbeats 4000000 in
theorem m_X11_recordCount (l : Launch) (D : va_G) (ct : Nat → ClassId) (S : ty_S) (ws : va_W) (ph : va_W → Prop) (xx : Nat → Nat → Nat → Prop) (mo : Nat) (mw : Nat) (ma : Nat) (mf : Nat) (m0 : Nat) (m1 : Nat) (mu : Nat) (mv : Nat) (u0 : Nat) (u1 : Nat) (iz : Nat) (mb : Nat) (th : Int32) (mn : Int32) (mpt : Int32) (mbg : Int32) (mwr : Int32) (mwk : Int32) (mlf : Int32) (men : Int32) (f : Nat → Int32) (G : Nat → Int32) (cx : Int) (sz : Nat) (hT : ty_V ct S ph ws) (h_mu : S mu = some (.inr (1, 42))) (h_mv : S mv = some (.inr (1, 42))) (h_u0 : S u0 = some (.inr (1, 42))) (h_u1 : S u1 = some (.inr (1, 42))) (hph : ty_C ph xx) (hy1 : ty_y1 xx) (hR : rf_R G cx f) : Met l yX11_recordCount (ws_ yX11_recordCount cX11_recordCount 1 (some .int)) ({ frames := 0, cells := 0, slots := 0, locals := 0 } : Room) (va_Pc [.ref mo] (cmP D ct sz ([(rf_MO mo mw ma mf m0 m1 mu mv u0 u1 iz th mb mn mpt mbg mwr mwk mlf men), (rf_RW ct 0 mw 958 f)] ++ ws))) (va_Qi (fun (r : Int32) (u : va_W × Int32) => match u with | (u9, th1) => ty_V ct S ph u9) (cmB D ([(rf_MO mo mw ma mf m0 m1 mu mv u0 u1 iz th mb mn mpt mbg mwr mwk mlf men), (rf_RW ct 0 mw 958 f)] ++ ws) sz (fun (u : va_W × Int32) => match u with | (u9, th1) => ([(rf_MO mo mw ma mf m0 m1 mu mv u0 u1 iz th1 mb mn mpt mbg mwr mwk mlf men), (rf_RW ct 0 mw 958 f)] ++ u9))) (va_A ([(rf_MO mo mw ma mf m0 m1 mu mv u0 u1 iz th mb mn mpt mbg mwr mwk mlf men), (rf_RW ct 0 mw 958 f)] ++ ws) sz)) 0 0 (va_A ([(rf_MO mo mw ma mf m0 m1 mu mv u0 u1 iz th mb mn mpt mbg mwr mwk mlf men), (rf_RW ct 0 mw 958 f)] ++ ws) sz) := by
  refine Met.ofW (cc := cX11_recordCount) (maxL := 1) (ret := (some .int)) (by decide) rfl ?_
  intro p e s m args below meth c s₁ B hml hv
  obtain ⟨rfl, hsz, hP, hK, hD0, hX⟩ := hv
  have hx := B.exec
  have hb := B.bytes
  have hr := B.returns
  have hts := ws_all (atoms_spec (ws := ws_ yX11_recordCount cX11_recordCount 1 (some .int)) B.pre)
  have hown : s.vm.findClass RX11 = some m.cls := findClass_of_methodNamed B.named
  have hlocks := B.notSynchronized
  subst hsz
  have hD := hD0.self (sz := s.heap.size)
  generalize hAe : va_A ([(rf_MO mo mw ma mf m0 m1 mu mv u0 u1 iz th mb mn mpt mbg mwr mwk mlf men), (rf_RW ct 0 mw 958 f)] ++ ws) s.heap.size = A at hD hX ⊢
  have hA : ∀ q : Nat, s.heap.size ≤ q → A q := fun q h => by rw [← hAe]; exact Or.inr h
  have hS : va_S A s.heap s.heap [] := va_S.rf
  have hl := lv_entry ([.ref mo]) (n := 1) (Nat.le_of_ble_eq_true rfl)
  rw [lg_entry_eq]
  generalize (lg_sl ([.ref mo]) ++ List.replicate (1 - (lg_sl ([.ref mo])).length) Slot.unset).toArray = ls at hl ⊢
  have hl : lv_has ls 1 [(0, .ref mo)] := hl
  refine lv_aload_n hx hb dX11_recordCount_0 rfl (lv_at hl 0 rfl) ?_
  refine lv_iconst (v := 0) hx hb dX11_recordCount_1 (by decide) ?_
  refine va_put (v := .int 0) (ty := .int) (D := D) (ci := 11) (C := RX11) (T := TX11) (N := 19) hx hb hts in_X11 tyX11 tyX11_ok nmX11 hown hK hP hD hS 0 rfl rfl 10 (by decide) (hts _ kl_RX11_49) (fun _ h9 => h9) rfl (by decide +kernel) rfl rfl (Nat.le_of_ble_eq_true rfl) dX11_recordCount_2 (fun H locs hP hD hS => ?_)
  have hP : va_P D vwCl ([(rf_MO mo mw ma mf m0 m1 mu mv u0 u1 iz (0) mb mn mpt mbg mwr mwk mlf men), (rf_RW ct 0 mw 958 f)] ++ ws) H := hP
  have hD : va_D A ([(rf_MO mo mw ma mf m0 m1 mu mv u0 u1 iz (0) mb mn mpt mbg mwr mwk mlf men), (rf_RW ct 0 mw 958 f)] ++ ws) := hD
  refine lv_aload_n hx hb dX11_recordCount_5 rfl (lv_at hl 0 rfl) ?_
  refine va_get (v := .ref mw) (D := D) (ci := 11) (C := RX11) (T := TX11) (N := 19) hx hb hts in_X11 hown hK hP 0 rfl rfl 0 (by decide) (hts _ kl_RX11_9) (fun _ h9 => h9) rfl dX11_recordCount_6 ?_
  refine lv_bipush (v := 12) hx hb dX11_recordCount_9 (by decide) ?_
  refine va_iald hx hb hK hP 1 0 rfl rfl (cm_vin (by decide)) dX11_recordCount_11 ?_
  refine cm_cst (y := (f 12)) (by first | rfl | decide +kernel) ?_
  exact W.iret (v := (f 12)) hx hb hr (fun t ht hW => ⟨⟨(f 12), (ws, (0 : Int32)), rfl, hT, by rw [ht]; exact hP, by rw [hAe]; exact hD⟩, hS.F ht⟩) hS.2.2 dX11_recordCount_12
theorem dX11_logSize_0 : decode cX11_logSize 0 = .ok (.aload_n 0, 1) := by decide +kernel
theorem dX11_logSize_1 : decode cX11_logSize 1 = .ok (.iconst 0, 1) := by decide +kernel
theorem dX11_logSize_2 : decode cX11_logSize 2 = .ok (.putfield 49, 3) := by decide +kernel
theorem dX11_logSize_5 : decode cX11_logSize 5 = .ok (.aload_n 0, 1) := by decide +kernel
theorem dX11_logSize_6 : decode cX11_logSize 6 = .ok (.getfield 9, 3) := by decide +kernel
theorem dX11_logSize_9 : decode cX11_logSize 9 = .ok (.bipush 17, 2) := by decide +kernel
theorem dX11_logSize_11 : decode cX11_logSize 11 = .ok (.iaload, 1) := by decide +kernel
theorem dX11_logSize_12 : decode cX11_logSize 12 = .ok (.ireturn, 1) := by decide +kernel
set_option maxRecDepth 100000 in
set_option maxHeartbeats 4000000 in
theorem m_X11_logSize (l : Launch) (D : va_G) (ct : Nat → ClassId) (S : ty_S) (ws : va_W) (ph : va_W → Prop) (xx : Nat → Nat → Nat → Prop) (mo : Nat) (mw : Nat) (ma : Nat) (mf : Nat) (m0 : Nat) (m1 : Nat) (mu : Nat) (mv : Nat) (u0 : Nat) (u1 : Nat) (iz : Nat) (mb : Nat) (th : Int32) (mn : Int32) (mpt : Int32) (mbg : Int32) (mwr : Int32) (mwk : Int32) (mlf : Int32) (men : Int32) (f : Nat → Int32) (G : Nat → Int32) (cx : Int) (sz : Nat) (hT : ty_V ct S ph ws) (h_mu : S mu = some (.inr (1, 42))) (h_mv : S mv = some (.inr (1, 42))) (h_u0 : S u0 = some (.inr (1, 42))) (h_u1 : S u1 = some (.inr (1, 42))) (hph : ty_C ph xx) (hy1 : ty_y1 xx) (hR : rf_R G cx f) : Met l yX11_logSize (ws_ yX11_logSize cX11_logSize 1 (some .int)) ({ frames := 0, cells := 0, slots := 0, locals := 0 } : Room) (va_Pc [.ref mo] (cmP D ct sz ([(rf_MO mo mw ma mf m0 m1 mu mv u0 u1 iz th mb mn mpt mbg mwr mwk mlf men), (rf_RW ct 0 mw 958 f)] ++ ws))) (va_Qi (fun (r : Int32) (u : va_W × Int32) => match u with | (u9, th1) => ty_V ct S ph u9) (cmB D ([(rf_MO mo mw ma mf m0 m1 mu mv u0 u1 iz th mb mn mpt mbg mwr mwk mlf men), (rf_RW ct 0 mw 958 f)] ++ ws) sz (fun (u : va_W × Int32) => match u with | (u9, th1) => ([(rf_MO mo mw ma mf m0 m1 mu mv u0 u1 iz th1 mb mn mpt mbg mwr mwk mlf men), (rf_RW ct 0 mw 958 f)] ++ u9))) (va_A ([(rf_MO mo mw ma mf m0 m1 mu mv u0 u1 iz th mb mn mpt mbg mwr mwk mlf men), (rf_RW ct 0 mw 958 f)] ++ ws) sz)) 0 0 (va_A ([(rf_MO mo mw ma mf m0 m1 mu mv u0 u1 iz th mb mn mpt mbg mwr mwk mlf men), (rf_RW ct 0 mw 958 f)] ++ ws) sz) := by
  refine Met.ofW (cc := cX11_logSize) (maxL := 1) (ret := (some .int)) (by decide) rfl ?_
  intro p e s m args below meth c s₁ B hml hv
  obtain ⟨rfl, hsz, hP, hK, hD0, hX⟩ := hv
  have hx := B.exec
  have hb := B.bytes
  have hr := B.returns
  have hts := ws_all (atoms_spec (ws := ws_ yX11_logSize cX11_logSize 1 (some .int)) B.pre)
  have hown : s.vm.findClass RX11 = some m.cls := findClass_of_methodNamed B.named
  have hlocks := B.notSynchronized
  subst hsz
  have hD := hD0.self (sz := s.heap.size)
  generalize hAe : va_A ([(rf_MO mo mw ma mf m0 m1 mu mv u0 u1 iz th mb mn mpt mbg mwr mwk mlf men), (rf_RW ct 0 mw 958 f)] ++ ws) s.heap.size = A at hD hX ⊢
  have hA : ∀ q : Nat, s.heap.size ≤ q → A q := fun q h => by rw [← hAe]; exact Or.inr h
  have hS : va_S A s.heap s.heap [] := va_S.rf
  have hl := lv_entry ([.ref mo]) (n := 1) (Nat.le_of_ble_eq_true rfl)
  rw [lg_entry_eq]
  generalize (lg_sl ([.ref mo]) ++ List.replicate (1 - (lg_sl ([.ref mo])).length) Slot.unset).toArray = ls at hl ⊢
  have hl : lv_has ls 1 [(0, .ref mo)] := hl
  refine lv_aload_n hx hb dX11_logSize_0 rfl (lv_at hl 0 rfl) ?_
  refine lv_iconst (v := 0) hx hb dX11_logSize_1 (by decide) ?_
  refine va_put (v := .int 0) (ty := .int) (D := D) (ci := 11) (C := RX11) (T := TX11) (N := 19) hx hb hts in_X11 tyX11 tyX11_ok nmX11 hown hK hP hD hS 0 rfl rfl 10 (by decide) (hts _ kl_RX11_49) (fun _ h9 => h9) rfl (by decide +kernel) rfl rfl (Nat.le_of_ble_eq_true rfl) dX11_logSize_2 (fun H locs hP hD hS => ?_)
  have hP : va_P D vwCl ([(rf_MO mo mw ma mf m0 m1 mu mv u0 u1 iz (0) mb mn mpt mbg mwr mwk mlf men), (rf_RW ct 0 mw 958 f)] ++ ws) H := hP
  have hD : va_D A ([(rf_MO mo mw ma mf m0 m1 mu mv u0 u1 iz (0) mb mn mpt mbg mwr mwk mlf men), (rf_RW ct 0 mw 958 f)] ++ ws) := hD
  refine lv_aload_n hx hb dX11_logSize_5 rfl (lv_at hl 0 rfl) ?_
  refine va_get (v := .ref mw) (D := D) (ci := 11) (C := RX11) (T := TX11) (N := 19) hx hb hts in_X11 hown hK hP 0 rfl rfl 0 (by decide) (hts _ kl_RX11_9) (fun _ h9 => h9) rfl dX11_logSize_6 ?_
  refine lv_bipush (v := 17) hx hb dX11_logSize_9 (by decide) ?_
  refine va_iald hx hb hK hP 1 0 rfl rfl (cm_vin (by decide)) dX11_logSize_11 ?_
  refine cm_cst (y := (f 17)) (by first | rfl | decide +kernel) ?_
  exact W.iret (v := (f 17)) hx hb hr (fun t ht hW => ⟨⟨(f 17), (ws, (0 : Int32)), rfl, hT, by rw [ht]; exact hP, by rw [hAe]; exact hD⟩, hS.F ht⟩) hS.2.2 dX11_logSize_12
theorem dX11_loadError_0 : decode cX11_loadError 0 = .ok (.aload_n 0, 1) := by decide +kernel
theorem dX11_loadError_1 : decode cX11_loadError 1 = .ok (.iconst 0, 1) := by decide +kernel
theorem dX11_loadError_2 : decode cX11_loadError 2 = .ok (.putfield 49, 3) := by decide +kernel
theorem dX11_loadError_5 : decode cX11_loadError 5 = .ok (.aload_n 0, 1) := by decide +kernel
theorem dX11_loadError_6 : decode cX11_loadError 6 = .ok (.getfield 59, 3) := by decide +kernel
theorem dX11_loadError_9 : decode cX11_loadError 9 = .ok (.ireturn, 1) := by decide +kernel
set_option maxRecDepth 100000 in
set_option maxHeartbeats 4000000 in
theorem m_X11_loadError (l : Launch) (D : va_G) (ct : Nat → ClassId) (S : ty_S) (ws : va_W) (ph : va_W → Prop) (xx : Nat → Nat → Nat → Prop) (mo : Nat) (mw : Nat) (ma : Nat) (mf : Nat) (m0 : Nat) (m1 : Nat) (mu : Nat) (mv : Nat) (u0 : Nat) (u1 : Nat) (iz : Nat) (mb : Nat) (th : Int32) (mn : Int32) (mpt : Int32) (mbg : Int32) (mwr : Int32) (mwk : Int32) (mlf : Int32) (men : Int32) (sz : Nat) (hT : ty_V ct S ph ws) (h_mu : S mu = some (.inr (1, 42))) (h_mv : S mv = some (.inr (1, 42))) (h_u0 : S u0 = some (.inr (1, 42))) (h_u1 : S u1 = some (.inr (1, 42))) (hph : ty_C ph xx) (hy1 : ty_y1 xx) : Met l yX11_loadError (ws_ yX11_loadError cX11_loadError 1 (some .int)) ({ frames := 0, cells := 0, slots := 0, locals := 0 } : Room) (va_Pc [.ref mo] (cmP D ct sz ([(rf_MO mo mw ma mf m0 m1 mu mv u0 u1 iz th mb mn mpt mbg mwr mwk mlf men)] ++ ws))) (va_Qi (fun (r : Int32) (u : va_W × Int32) => match u with | (u9, th1) => ty_V ct S ph u9) (cmB D ([(rf_MO mo mw ma mf m0 m1 mu mv u0 u1 iz th mb mn mpt mbg mwr mwk mlf men)] ++ ws) sz (fun (u : va_W × Int32) => match u with | (u9, th1) => ([(rf_MO mo mw ma mf m0 m1 mu mv u0 u1 iz th1 mb mn mpt mbg mwr mwk mlf men)] ++ u9))) (va_A ([(rf_MO mo mw ma mf m0 m1 mu mv u0 u1 iz th mb mn mpt mbg mwr mwk mlf men)] ++ ws) sz)) 0 0 (va_A ([(rf_MO mo mw ma mf m0 m1 mu mv u0 u1 iz th mb mn mpt mbg mwr mwk mlf men)] ++ ws) sz) := by
  refine Met.ofW (cc := cX11_loadError) (maxL := 1) (ret := (some .int)) (by decide) rfl ?_
  intro p e s m args below meth c s₁ B hml hv
  obtain ⟨rfl, hsz, hP, hK, hD0, hX⟩ := hv
  have hx := B.exec
  have hb := B.bytes
  have hr := B.returns
  have hts := ws_all (atoms_spec (ws := ws_ yX11_loadError cX11_loadError 1 (some .int)) B.pre)
  have hown : s.vm.findClass RX11 = some m.cls := findClass_of_methodNamed B.named
  have hlocks := B.notSynchronized
  subst hsz
  have hD := hD0.self (sz := s.heap.size)
  generalize hAe : va_A ([(rf_MO mo mw ma mf m0 m1 mu mv u0 u1 iz th mb mn mpt mbg mwr mwk mlf men)] ++ ws) s.heap.size = A at hD hX ⊢
  have hA : ∀ q : Nat, s.heap.size ≤ q → A q := fun q h => by rw [← hAe]; exact Or.inr h
  have hS : va_S A s.heap s.heap [] := va_S.rf
  have hl := lv_entry ([.ref mo]) (n := 1) (Nat.le_of_ble_eq_true rfl)
  rw [lg_entry_eq]
  generalize (lg_sl ([.ref mo]) ++ List.replicate (1 - (lg_sl ([.ref mo])).length) Slot.unset).toArray = ls at hl ⊢
  have hl : lv_has ls 1 [(0, .ref mo)] := hl
  refine lv_aload_n hx hb dX11_loadError_0 rfl (lv_at hl 0 rfl) ?_
  refine lv_iconst (v := 0) hx hb dX11_loadError_1 (by decide) ?_
  refine va_put (v := .int 0) (ty := .int) (D := D) (ci := 11) (C := RX11) (T := TX11) (N := 19) hx hb hts in_X11 tyX11 tyX11_ok nmX11 hown hK hP hD hS 0 rfl rfl 10 (by decide) (hts _ kl_RX11_49) (fun _ h9 => h9) rfl (by decide +kernel) rfl rfl (Nat.le_of_ble_eq_true rfl) dX11_loadError_2 (fun H locs hP hD hS => ?_)
  have hP : va_P D vwCl ([(rf_MO mo mw ma mf m0 m1 mu mv u0 u1 iz (0) mb mn mpt mbg mwr mwk mlf men)] ++ ws) H := hP
  have hD : va_D A ([(rf_MO mo mw ma mf m0 m1 mu mv u0 u1 iz (0) mb mn mpt mbg mwr mwk mlf men)] ++ ws) := hD
  refine lv_aload_n hx hb dX11_loadError_5 rfl (lv_at hl 0 rfl) ?_
  refine va_get (v := .int mlf) (D := D) (ci := 11) (C := RX11) (T := TX11) (N := 19) hx hb hts in_X11 hown hK hP 0 rfl rfl 17 (by decide) (hts _ kl_RX11_59) (fun _ h9 => h9) rfl dX11_loadError_6 ?_
  exact W.iret (v := mlf) hx hb hr (fun t ht hW => ⟨⟨mlf, (ws, (0 : Int32)), rfl, hT, by rw [ht]; exact hP, by rw [hAe]; exact hD⟩, hS.F ht⟩) hS.2.2 dX11_loadError_9
theorem dX11_loss_0 : decode cX11_loss 0 = .ok (.aload_n 0, 1) := by decide +kernel
theorem dX11_loss_1 : decode cX11_loss 1 = .ok (.iload_n 1, 1) := by decide +kernel
theorem dX11_loss_2 : decode cX11_loss 2 = .ok (.invokevirtual 344, 3) := by decide +kernel
theorem dX11_loss_5 : decode cX11_loss 5 = .ok (.ifCond .eq 5, 3) := by decide +kernel
theorem dX11_loss_8 : decode cX11_loss 8 = .ok (.iconst 0, 1) := by decide +kernel
theorem dX11_loss_9 : decode cX11_loss 9 = .ok (.ireturn, 1) := by decide +kernel
theorem dX11_loss_10 : decode cX11_loss 10 = .ok (.iconst (-1), 1) := by decide +kernel
theorem dX11_loss_11 : decode cX11_loss 11 = .ok (.istore_n 2, 1) := by decide +kernel
theorem dX11_loss_12 : decode cX11_loss 12 = .ok (.iconst (-1), 1) := by decide +kernel
theorem dX11_loss_13 : decode cX11_loss 13 = .ok (.istore_n 3, 1) := by decide +kernel
theorem dX11_loss_14 : decode cX11_loss 14 = .ok (.iconst 0, 1) := by decide +kernel
theorem dX11_loss_15 : decode cX11_loss 15 = .ok (.istore 4, 2) := by decide +kernel
theorem dX11_loss_17 : decode cX11_loss 17 = .ok (.iload 4, 2) := by decide +kernel
theorem dX11_loss_19 : decode cX11_loss 19 = .ok (.aload_n 0, 1) := by decide +kernel
theorem dX11_loss_20 : decode cX11_loss 20 = .ok (.getfield 9, 3) := by decide +kernel
theorem dX11_loss_23 : decode cX11_loss 23 = .ok (.bipush 12, 2) := by decide +kernel
theorem dX11_loss_25 : decode cX11_loss 25 = .ok (.iaload, 1) := by decide +kernel
theorem dX11_loss_26 : decode cX11_loss 26 = .ok (.if_icmp .ge 33, 3) := by decide +kernel
theorem dX11_loss_29 : decode cX11_loss 29 = .ok (.aload_n 0, 1) := by decide +kernel
theorem dX11_loss_30 : decode cX11_loss 30 = .ok (.iload 4, 2) := by decide +kernel
theorem dX11_loss_32 : decode cX11_loss 32 = .ok (.iload_n 1, 1) := by decide +kernel
theorem dX11_loss_33 : decode cX11_loss 33 = .ok (.invokevirtual 372, 3) := by decide +kernel
theorem dX11_loss_36 : decode cX11_loss 36 = .ok (.ifCond .ne 6, 3) := by decide +kernel
theorem dX11_loss_39 : decode cX11_loss 39 = .ok (.goto 14, 3) := by decide +kernel
theorem dX11_loss_42 : decode cX11_loss 42 = .ok (.iload_n 2, 1) := by decide +kernel
theorem dX11_loss_43 : decode cX11_loss 43 = .ok (.iconst (-1), 1) := by decide +kernel
theorem dX11_loss_44 : decode cX11_loss 44 = .ok (.if_icmp .ne 6, 3) := by decide +kernel
theorem dX11_loss_47 : decode cX11_loss 47 = .ok (.iload 4, 2) := by decide +kernel
theorem dX11_loss_49 : decode cX11_loss 49 = .ok (.istore_n 2, 1) := by decide +kernel
theorem dX11_loss_50 : decode cX11_loss 50 = .ok (.iload 4, 2) := by decide +kernel
theorem dX11_loss_52 : decode cX11_loss 52 = .ok (.istore_n 3, 1) := by decide +kernel
theorem dX11_loss_53 : decode cX11_loss 53 = .ok (.iinc 4 1, 3) := by decide +kernel
theorem dX11_loss_56 : decode cX11_loss 56 = .ok (.goto (-39), 3) := by decide +kernel
theorem dX11_loss_59 : decode cX11_loss 59 = .ok (.iload_n 2, 1) := by decide +kernel
theorem dX11_loss_60 : decode cX11_loss 60 = .ok (.iconst (-1), 1) := by decide +kernel
theorem dX11_loss_61 : decode cX11_loss 61 = .ok (.if_icmp .ne 7, 3) := by decide +kernel
theorem dX11_loss_64 : decode cX11_loss 64 = .ok (.iconst 0, 1) := by decide +kernel
theorem dX11_loss_65 : decode cX11_loss 65 = .ok (.goto 16, 3) := by decide +kernel
theorem dX11_loss_68 : decode cX11_loss 68 = .ok (.aload_n 0, 1) := by decide +kernel
theorem dX11_loss_69 : decode cX11_loss 69 = .ok (.iload_n 2, 1) := by decide +kernel
theorem dX11_loss_70 : decode cX11_loss 70 = .ok (.iconst 2, 1) := by decide +kernel
theorem dX11_loss_71 : decode cX11_loss 71 = .ok (.invokevirtual 369, 3) := by decide +kernel
theorem dX11_loss_74 : decode cX11_loss 74 = .ok (.aload_n 0, 1) := by decide +kernel
theorem dX11_loss_75 : decode cX11_loss 75 = .ok (.iload_n 3, 1) := by decide +kernel
theorem dX11_loss_76 : decode cX11_loss 76 = .ok (.iconst 2, 1) := by decide +kernel
theorem dX11_loss_77 : decode cX11_loss 77 = .ok (.invokevirtual 369, 3) := by decide +kernel
theorem dX11_loss_80 : decode cX11_loss 80 = .ok (.isub, 1) := by decide +kernel
theorem dX11_loss_81 : decode cX11_loss 81 = .ok (.ireturn, 1) := by decide +kernel
set_option maxRecDepth 100000 in
set_option maxHeartbeats 4000000 in
theorem m_X11_loss (l : Launch) (D : va_G) (ct : Nat → ClassId) (S : ty_S) (ws : va_W) (ph : va_W → Prop) (xx : Nat → Nat → Nat → Prop) (mo : Nat) (mw : Nat) (ma : Nat) (mf : Nat) (m0 : Nat) (m1 : Nat) (mu : Nat) (mv : Nat) (u0 : Nat) (u1 : Nat) (iz : Nat) (mb : Nat) (th : Int32) (mn : Int32) (mpt : Int32) (mbg : Int32) (mwr : Int32) (mwk : Int32) (mlf : Int32) (men : Int32) (f : Nat → Int32) (G : Nat → Int32) (cx : Int) (p1 : Int32) (sz : Nat) (hT : ty_V ct S ph ws) (h_mu : S mu = some (.inr (1, 42))) (h_mv : S mv = some (.inr (1, 42))) (h_u0 : S u0 = some (.inr (1, 42))) (h_u1 : S u1 = some (.inr (1, 42))) (hph : ty_C ph xx) (hy1 : ty_y1 xx) (hR : rf_R G cx f) : Met l yX11_loss (ws_ yX11_loss cX11_loss 5 (some .int)) ({ frames := 2, cells := 0, slots := 0, locals := 46 } : Room) (va_Pc [.ref mo, .int p1] (cmP D ct sz ([(rf_MO mo mw ma mf m0 m1 mu mv u0 u1 iz th mb mn mpt mbg mwr mwk mlf men), (rf_RW ct 0 mw 958 f)] ++ ws))) (va_Qi (fun (r : Int32) (u : va_W × Int32) => match u with | (u9, th1) => ty_V ct S ph u9) (cmB D ([(rf_MO mo mw ma mf m0 m1 mu mv u0 u1 iz th mb mn mpt mbg mwr mwk mlf men), (rf_RW ct 0 mw 958 f)] ++ ws) sz (fun (u : va_W × Int32) => match u with | (u9, th1) => ([(rf_MO mo mw ma mf m0 m1 mu mv u0 u1 iz th1 mb mn mpt mbg mwr mwk mlf men), (rf_RW ct 0 mw 958 f)] ++ u9))) (va_A ([(rf_MO mo mw ma mf m0 m1 mu mv u0 u1 iz th mb mn mpt mbg mwr mwk mlf men), (rf_RW ct 0 mw 958 f)] ++ ws) sz)) 0 0 (va_A ([(rf_MO mo mw ma mf m0 m1 mu mv u0 u1 iz th mb mn mpt mbg mwr mwk mlf men), (rf_RW ct 0 mw 958 f)] ++ ws) sz) := by
  refine Met.ofW (cc := cX11_loss) (maxL := 5) (ret := (some .int)) (by decide) rfl ?_
  intro p e s m args below meth c s₁ B hml hv
  obtain ⟨rfl, hsz, hP, hK, hD0, hX⟩ := hv
  have hx := B.exec
  have hb := B.bytes
  have hr := B.returns
  have hts := ws_all (atoms_spec (ws := ws_ yX11_loss cX11_loss 5 (some .int)) B.pre)
  have hown : s.vm.findClass RX11 = some m.cls := findClass_of_methodNamed B.named
  have hlocks := B.notSynchronized
  subst hsz
  have hD := hD0.self (sz := s.heap.size)
  generalize hAe : va_A ([(rf_MO mo mw ma mf m0 m1 mu mv u0 u1 iz th mb mn mpt mbg mwr mwk mlf men), (rf_RW ct 0 mw 958 f)] ++ ws) s.heap.size = A at hD hX ⊢
  have hA : ∀ q : Nat, s.heap.size ≤ q → A q := fun q h => by rw [← hAe]; exact Or.inr h
  have hS : va_S A s.heap s.heap [] := va_S.rf
  have hl := lv_entry ([.ref mo, .int p1]) (n := 5) (Nat.le_of_ble_eq_true rfl)
  rw [lg_entry_eq]
  generalize (lg_sl ([.ref mo, .int p1]) ++ List.replicate (5 - (lg_sl ([.ref mo, .int p1])).length) Slot.unset).toArray = ls at hl ⊢
  have hl : lv_has ls 5 [(0, .ref mo), (1, .int p1)] := hl
  refine lv_aload_n hx hb dX11_loss_0 rfl (lv_at hl 0 rfl) ?_
  refine lv_iload_n hx hb dX11_loss_1 rfl (lv_at hl 1 rfl) ?_
  refine ty_ki (wr := []) (wc := ([(rf_MO mo mw ma mf m0 m1 mu mv u0 u1 iz th mb mn mpt mbg mwr mwk mlf men), (rf_RW ct 0 mw 958 f)] ++ ws)) (va_runV (As := [.int p1]) (rest := []) ⟨hx, hb, hml, hown, hts⟩ (m_X11_noChannel l D ct S ws ph xx mo mw ma mf m0 m1 mu mv u0 u1 iz mb th mn mpt mbg mwr mwk mlf men f G cx p1 _ hT h_mu h_mv h_u0 h_u1 hph hy1 hR) (cm_V 1 hts kc_X11_noChannel ki_RX11 kl_RX11_344 kv_X11_noChannel kx_X11_noChannel kd_X11_noChannel ⟨Nat.le_of_ble_eq_true rfl, Nat.le_of_ble_eq_true rfl⟩) (ty_preE (wr := []) (wc := ([(rf_MO mo mw ma mf m0 m1 mu mv u0 u1 iz th mb mn mpt mbg mwr mwk mlf men), (rf_RW ct 0 mw 958 f)] ++ ws)) (ci := 11) (q0 := 0) hP hK hD hS hA hX rfl rfl) rfl rfl hl.1 rfl (lv_room (Nat.le_of_ble_eq_true rfl)) dX11_loss_2 ⟨Nat.le_of_ble_eq_true rfl, Nat.le_of_ble_eq_true rfl⟩) hP hD hS hA (fun r_1 u H locs hw_2 hP hD hS => ?_)
  obtain ⟨ws_3, th1_4⟩ := u
  obtain ⟨hT, hp_5⟩ := hw_2
  have hp_5 : ((r_1 = 0 ∧ 0 ≤ p1.toInt ∧ p1.toInt < (G 9).toInt) ∨ r_1 = 1) := hp_5
  have hP : va_P D vwCl ([(rf_MO mo mw ma mf m0 m1 mu mv u0 u1 iz th1_4 mb mn mpt mbg mwr mwk mlf men), (rf_RW ct 0 mw 958 f)] ++ ws_3) H := hP
  have hD : va_D A ([(rf_MO mo mw ma mf m0 m1 mu mv u0 u1 iz th1_4 mb mn mpt mbg mwr mwk mlf men), (rf_RW ct 0 mw 958 f)] ++ ws_3) := hD
  rcases hp_5 with ⟨rfl, hz_6⟩ | rfl
  · refine lv_if_eq (tgt := 10) hx hb dX11_loss_5 (by decide) (fun _ => ?_) (fun hc => absurd (by decide) hc)
    refine lv_iconst (v := (-1)) hx hb dX11_loss_10 (by decide) ?_
    refine lv_istore_n (lv' := [(2, .int (-1)), (0, .ref mo), (1, .int p1)]) hx hb dX11_loss_11 rfl hl (by decide) rfl (fun ls hl => ?_)
    refine lv_iconst (v := (-1)) hx hb dX11_loss_12 (by decide) ?_
    refine lv_istore_n (lv' := [(3, .int (-1)), (2, .int (-1)), (0, .ref mo), (1, .int p1)]) hx hb dX11_loss_13 rfl hl (by decide) rfl (fun ls hl => ?_)
    refine lv_iconst (v := 0) hx hb dX11_loss_14 (by decide) ?_
    refine lv_istore (lv' := [(4, .int 0), (3, .int (-1)), (2, .int (-1)), (0, .ref mo), (1, .int p1)]) hx hb dX11_loss_15 hl (by decide) rfl (fun ls hl => ?_)
    refine ty_loop (I := fun μ H locs ls => ∃ (ws : va_W) (y_7 : Int32) (y_8 : Int32) (y_9 : Int32), μ = (2147483648 - y_9.toInt).toNat ∧ ty_V ct S ph ws ∧ va_P D vwCl ([(rf_MO mo mw ma mf m0 m1 mu mv u0 u1 iz th1_4 mb mn mpt mbg mwr mwk mlf men), (rf_RW ct 0 mw 958 f)] ++ ws) H ∧ va_D A ([(rf_MO mo mw ma mf m0 m1 mu mv u0 u1 iz th1_4 mb mn mpt mbg mwr mwk mlf men), (rf_RW ct 0 mw 958 f)] ++ ws) ∧ va_S A s.heap H locs ∧ lv_has ls 5 [(0, .ref mo), (1, .int p1), (2, .int y_7), (3, .int y_8), (4, .int y_9)] ∧ 0 ≤ y_9.toInt ∧ (y_7 = -1 ∨ (0 ≤ y_7.toInt ∧ y_7.toInt ≤ 29) ∧ 0 ≤ y_8.toInt ∧ y_8.toInt ≤ 29)) ⟨_, ws_3, ((-1) : Int32), ((-1) : Int32), (0 : Int32), rfl, hT, hP, hD, hS, (lv_sub hl [3, 4, 2, 1, 0] rfl), ⟨by decide, Or.inl rfl⟩⟩ (fun μ H locs ls hI ih_17 => ?_)
    obtain ⟨ws, y_7, y_8, y_9, rfl, hT, hP, hD, hS, hl, hex_17⟩ := hI
    refine lv_iload hx hb dX11_loss_17 (lv_at hl 4 rfl) ?_
    refine lv_aload_n hx hb dX11_loss_19 rfl (lv_at hl 0 rfl) ?_
    refine va_get (v := .ref mw) (D := D) (ci := 11) (C := RX11) (T := TX11) (N := 19) hx hb hts in_X11 hown hK hP 0 rfl rfl 0 (by decide) (hts _ kl_RX11_9) (fun _ h9 => h9) rfl dX11_loss_20 ?_
    refine lv_bipush (v := 12) hx hb dX11_loss_23 (by decide) ?_
    refine va_iald hx hb hK hP 1 0 rfl rfl (cm_vin (by decide)) dX11_loss_25 ?_
    refine cm_cst (y := (f 12)) (by first | rfl | decide +kernel) ?_
    refine lv_icmp_ge (tgt := 59) hx hb dX11_loss_26 (by decide) (fun hc_10 => ?_) (fun hc_10 => ?_)
    · refine lv_iload_n hx hb dX11_loss_59 rfl (lv_at hl 2 rfl) ?_
      refine lv_iconst (v := (-1)) hx hb dX11_loss_60 (by decide) ?_
      refine lv_icmp_ne (tgt := 68) hx hb dX11_loss_61 (by decide) (fun hc_11 => ?_) (fun hc_11 => ?_)
      · refine lv_aload_n hx hb dX11_loss_68 rfl (lv_at hl 0 rfl) ?_
        refine lv_iload_n hx hb dX11_loss_69 rfl (lv_at hl 2 rfl) ?_
        refine lv_iconst (v := 2) hx hb dX11_loss_70 (by decide) ?_
        refine ty_ki (wr := []) (wc := ([(rf_MO mo mw ma mf m0 m1 mu mv u0 u1 iz th1_4 mb mn mpt mbg mwr mwk mlf men), (rf_RW ct 0 mw 958 f)] ++ ws)) (va_runV (As := [.int y_7, .int 2]) (rest := []) ⟨hx, hb, hml, hown, hts⟩ (m_X11_recorded l D ct S ws ph xx mo mw ma mf m0 m1 mu mv u0 u1 iz mb th1_4 mn mpt mbg mwr mwk mlf men f G cx y_7 (2 : Int32) _ hT h_mu h_mv h_u0 h_u1 hph hy1 hR (hex_17.2.elim (fun q => absurd q hc_11) (fun q => q.1)) (by decide)) (cm_V 2 hts kc_X11_recorded ki_RX11 kl_RX11_369 kv_X11_recorded kx_X11_recorded kd_X11_recorded ⟨Nat.le_of_ble_eq_true rfl, Nat.le_of_ble_eq_true rfl⟩) (ty_preE (wr := []) (wc := ([(rf_MO mo mw ma mf m0 m1 mu mv u0 u1 iz th1_4 mb mn mpt mbg mwr mwk mlf men), (rf_RW ct 0 mw 958 f)] ++ ws)) (ci := 11) (q0 := 0) hP hK hD hS hA hX rfl rfl) rfl rfl hl.1 rfl (lv_room (Nat.le_of_ble_eq_true rfl)) dX11_loss_71 ⟨Nat.le_of_ble_eq_true rfl, Nat.le_of_ble_eq_true rfl⟩) hP hD hS hA (fun r_12 u H locs hw_13 hP hD hS => ?_)
        obtain ⟨ws_14, rfl⟩ : ∃ z, z = u := ⟨_, rfl⟩
        obtain ⟨hT, rfl⟩ := hw_13
        have hP : va_P D vwCl ([(rf_MO mo mw ma mf m0 m1 mu mv u0 u1 iz th1_4 mb mn mpt mbg mwr mwk mlf men), (rf_RW ct 0 mw 958 f)] ++ ws_14) H := hP
        have hD : va_D A ([(rf_MO mo mw ma mf m0 m1 mu mv u0 u1 iz th1_4 mb mn mpt mbg mwr mwk mlf men), (rf_RW ct 0 mw 958 f)] ++ ws_14) := hD
        refine lv_aload_n hx hb dX11_loss_74 rfl (lv_at hl 0 rfl) ?_
        refine lv_iload_n hx hb dX11_loss_75 rfl (lv_at hl 3 rfl) ?_
        refine lv_iconst (v := 2) hx hb dX11_loss_76 (by decide) ?_
        refine ty_ki (wr := []) (wc := ([(rf_MO mo mw ma mf m0 m1 mu mv u0 u1 iz th1_4 mb mn mpt mbg mwr mwk mlf men), (rf_RW ct 0 mw 958 f)] ++ ws_14)) (va_runV (As := [.int y_8, .int 2]) (rest := [.int (f (568 + 5 * y_7.toInt.toNat + (2 : Int32).toInt.toNat))]) ⟨hx, hb, hml, hown, hts⟩ (m_X11_recorded l D ct S ws_14 ph xx mo mw ma mf m0 m1 mu mv u0 u1 iz mb th1_4 mn mpt mbg mwr mwk mlf men f G cx y_8 (2 : Int32) _ hT h_mu h_mv h_u0 h_u1 hph hy1 hR (hex_17.2.elim (fun q => absurd q hc_11) (fun q => q.2)) (by decide)) (cm_V 2 hts kc_X11_recorded ki_RX11 kl_RX11_369 kv_X11_recorded kx_X11_recorded kd_X11_recorded ⟨Nat.le_of_ble_eq_true rfl, Nat.le_of_ble_eq_true rfl⟩) (ty_preE (wr := []) (wc := ([(rf_MO mo mw ma mf m0 m1 mu mv u0 u1 iz th1_4 mb mn mpt mbg mwr mwk mlf men), (rf_RW ct 0 mw 958 f)] ++ ws_14)) (ci := 11) (q0 := 0) hP hK hD hS hA hX rfl rfl) rfl rfl hl.1 rfl (lv_room (Nat.le_of_ble_eq_true rfl)) dX11_loss_77 ⟨Nat.le_of_ble_eq_true rfl, Nat.le_of_ble_eq_true rfl⟩) hP hD hS hA (fun r_15 u H locs hw_16 hP hD hS => ?_)
        obtain ⟨ws_17, rfl⟩ : ∃ z, z = u := ⟨_, rfl⟩
        obtain ⟨hT, rfl⟩ := hw_16
        have hP : va_P D vwCl ([(rf_MO mo mw ma mf m0 m1 mu mv u0 u1 iz th1_4 mb mn mpt mbg mwr mwk mlf men), (rf_RW ct 0 mw 958 f)] ++ ws_17) H := hP
        have hD : va_D A ([(rf_MO mo mw ma mf m0 m1 mu mv u0 u1 iz th1_4 mb mn mpt mbg mwr mwk mlf men), (rf_RW ct 0 mw 958 f)] ++ ws_17) := hD
        refine lv_isub hx hb dX11_loss_80 ?_
        refine lv_topi (fun x_18 _ => ?_)
        exact W.iret (v := x_18) hx hb hr (fun t ht hW => ⟨⟨x_18, (ws_17, th1_4), rfl, hT, by rw [ht]; exact hP, by rw [hAe]; exact hD⟩, hS.F ht⟩) hS.2.2 dX11_loss_81
      · refine lv_iconst (v := 0) hx hb dX11_loss_64 (by decide) ?_
        refine lv_goto (tgt := 81) hx hb dX11_loss_65 (by decide) ?_
        exact W.iret (v := 0) hx hb hr (fun t ht hW => ⟨⟨0, (ws, th1_4), rfl, hT, by rw [ht]; exact hP, by rw [hAe]; exact hD⟩, hS.F ht⟩) hS.2.2 dX11_loss_81
    · refine lv_aload_n hx hb dX11_loss_29 rfl (lv_at hl 0 rfl) ?_
      refine lv_iload hx hb dX11_loss_30 (lv_at hl 4 rfl) ?_
      refine lv_iload_n hx hb dX11_loss_32 rfl (lv_at hl 1 rfl) ?_
      refine ty_ki (wr := []) (wc := ([(rf_MO mo mw ma mf m0 m1 mu mv u0 u1 iz th1_4 mb mn mpt mbg mwr mwk mlf men), (rf_RW ct 0 mw 958 f)] ++ ws)) (va_runV (As := [.int y_9, .int p1]) (rest := []) ⟨hx, hb, hml, hown, hts⟩ (m_X11_isCounting l D ct S ws ph xx mo mw ma mf m0 m1 mu mv u0 u1 iz mb th1_4 mn mpt mbg mwr mwk mlf men f G cx y_9 p1 _ hT h_mu h_mv h_u0 h_u1 hph hy1 hR (by have := hex_17.1; have := hR.2.2.1.1; have := rf_ylt rfl hc_10; omega)) (cm_V 2 hts kc_X11_isCounting ki_RX11 kl_RX11_372 kv_X11_isCounting kx_X11_isCounting kd_X11_isCounting ⟨Nat.le_of_ble_eq_true rfl, Nat.le_of_ble_eq_true rfl⟩) (ty_preE (wr := []) (wc := ([(rf_MO mo mw ma mf m0 m1 mu mv u0 u1 iz th1_4 mb mn mpt mbg mwr mwk mlf men), (rf_RW ct 0 mw 958 f)] ++ ws)) (ci := 11) (q0 := 0) hP hK hD hS hA hX rfl rfl) rfl rfl hl.1 rfl (lv_room (Nat.le_of_ble_eq_true rfl)) dX11_loss_33 ⟨Nat.le_of_ble_eq_true rfl, Nat.le_of_ble_eq_true rfl⟩) hP hD hS hA (fun r_19 u H locs hw_20 hP hD hS => ?_)
      obtain ⟨ws_21, rfl⟩ : ∃ z, z = u := ⟨_, rfl⟩
      have hT := hw_20
      have hP : va_P D vwCl ([(rf_MO mo mw ma mf m0 m1 mu mv u0 u1 iz th1_4 mb mn mpt mbg mwr mwk mlf men), (rf_RW ct 0 mw 958 f)] ++ ws_21) H := hP
      have hD : va_D A ([(rf_MO mo mw ma mf m0 m1 mu mv u0 u1 iz th1_4 mb mn mpt mbg mwr mwk mlf men), (rf_RW ct 0 mw 958 f)] ++ ws_21) := hD
      refine lv_if_ne (tgt := 42) hx hb dX11_loss_36 (by decide) (fun hc_22 => ?_) (fun hc_22 => ?_)
      · refine lv_iload_n hx hb dX11_loss_42 rfl (lv_at hl 2 rfl) ?_
        refine lv_iconst (v := (-1)) hx hb dX11_loss_43 (by decide) ?_
        refine lv_icmp_ne (tgt := 50) hx hb dX11_loss_44 (by decide) (fun hc_23 => ?_) (fun hc_23 => ?_)
        · refine lv_iload hx hb dX11_loss_50 (lv_at hl 4 rfl) ?_
          refine lv_istore_n (lv' := [(3, .int y_9), (0, .ref mo), (1, .int p1), (2, .int y_7), (4, .int y_9)]) hx hb dX11_loss_52 rfl hl (by decide) rfl (fun ls hl => ?_)
          refine lv_iinc (v := (y_9 + Int32.ofInt 1)) (lv' := [(4, .int (y_9 + Int32.ofInt 1)), (3, .int y_9), (0, .ref mo), (1, .int p1), (2, .int y_7)]) hx hb dX11_loss_53 hl (k := 4) rfl rfl (by decide) rfl (fun ls hl => ?_)
          refine lv_goto (tgt := 17) hx hb dX11_loss_56 (by decide) ?_
          exact ih_17 _ _ _ _ (ty_inc (cm_lt hc_10)) ⟨ws_21, y_7, y_9, (y_9 + Int32.ofInt 1), rfl, hT, hP, hD, hS, (lv_sub hl [2, 3, 4, 1, 0] rfl), (ty_nn hex_17.1 (cm_lt hc_10)), (hex_17.2.elim (fun q => absurd q hc_23) (fun q => Or.inr ⟨q.1, (by have := hex_17.1; have := hR.2.2.1.1; have := rf_ylt rfl hc_10; omega)⟩))⟩
        · refine lv_iload hx hb dX11_loss_47 (lv_at hl 4 rfl) ?_
          refine lv_istore_n (lv' := [(2, .int y_9), (0, .ref mo), (1, .int p1), (3, .int y_8), (4, .int y_9)]) hx hb dX11_loss_49 rfl hl (by decide) rfl (fun ls hl => ?_)
          refine lv_iload hx hb dX11_loss_50 (lv_at hl 4 rfl) ?_
          refine lv_istore_n (lv' := [(3, .int y_9), (2, .int y_9), (0, .ref mo), (1, .int p1), (4, .int y_9)]) hx hb dX11_loss_52 rfl hl (by decide) rfl (fun ls hl => ?_)
          refine lv_iinc (v := (y_9 + Int32.ofInt 1)) (lv' := [(4, .int (y_9 + Int32.ofInt 1)), (3, .int y_9), (2, .int y_9), (0, .ref mo), (1, .int p1)]) hx hb dX11_loss_53 hl (k := 4) rfl rfl (by decide) rfl (fun ls hl => ?_)
          refine lv_goto (tgt := 17) hx hb dX11_loss_56 (by decide) ?_
          exact ih_17 _ _ _ _ (ty_inc (cm_lt hc_10)) ⟨ws_21, y_9, y_9, (y_9 + Int32.ofInt 1), rfl, hT, hP, hD, hS, (lv_sub hl [3, 4, 2, 1, 0] rfl), (ty_nn hex_17.1 (cm_lt hc_10)), Or.inr ⟨(by have := hex_17.1; have := hR.2.2.1.1; have := rf_ylt rfl hc_10; omega), (by have := hex_17.1; have := hR.2.2.1.1; have := rf_ylt rfl hc_10; omega)⟩⟩
      · refine lv_goto (tgt := 53) hx hb dX11_loss_39 (by decide) ?_
        refine lv_iinc (v := (y_9 + Int32.ofInt 1)) (lv' := [(4, .int (y_9 + Int32.ofInt 1)), (0, .ref mo), (1, .int p1), (2, .int y_7), (3, .int y_8)]) hx hb dX11_loss_53 hl (k := 4) rfl rfl (by decide) rfl (fun ls hl => ?_)
        refine lv_goto (tgt := 17) hx hb dX11_loss_56 (by decide) ?_
        exact ih_17 _ _ _ _ (ty_inc (cm_lt hc_10)) ⟨ws_21, y_7, y_8, (y_9 + Int32.ofInt 1), rfl, hT, hP, hD, hS, (lv_sub hl [1, 2, 3, 4, 0] rfl), (ty_nn hex_17.1 (cm_lt hc_10)), hex_17.2⟩
  · refine lv_if_eq (tgt := 10) hx hb dX11_loss_5 (by decide) (fun hc => absurd hc (by decide)) (fun _ => ?_)
    refine lv_iconst (v := 0) hx hb dX11_loss_8 (by decide) ?_
    exact W.iret (v := 0) hx hb hr (fun t ht hW => ⟨⟨0, (ws_3, th1_4), rfl, hT, by rw [ht]; exact hP, by rw [hAe]; exact hD⟩, hS.F ht⟩) hS.2.2 dX11_loss_9
theorem dX11_logEntry_0 : decode cX11_logEntry 0 = .ok (.aload_n 0, 1) := by decide +kernel
theorem dX11_logEntry_1 : decode cX11_logEntry 1 = .ok (.iconst 0, 1) := by decide +kernel
theorem dX11_logEntry_2 : decode cX11_logEntry 2 = .ok (.putfield 49, 3) := by decide +kernel
theorem dX11_logEntry_5 : decode cX11_logEntry 5 = .ok (.aload_n 0, 1) := by decide +kernel
theorem dX11_logEntry_6 : decode cX11_logEntry 6 = .ok (.iload_n 2, 1) := by decide +kernel
theorem dX11_logEntry_7 : decode cX11_logEntry 7 = .ok (.i2l, 1) := by decide +kernel
theorem dX11_logEntry_8 : decode cX11_logEntry 8 = .ok (.lconst 0, 1) := by decide +kernel
theorem dX11_logEntry_9 : decode cX11_logEntry 9 = .ok (.ldc2_w 358, 3) := by decide +kernel
theorem dX11_logEntry_12 : decode cX11_logEntry 12 = .ok (.invokestatic 70, 3) := by decide +kernel
theorem dX11_logEntry_15 : decode cX11_logEntry 15 = .ok (.ifCond .ne 7, 3) := by decide +kernel
theorem dX11_logEntry_18 : decode cX11_logEntry 18 = .ok (.iconst 1, 1) := by decide +kernel
theorem dX11_logEntry_19 : decode cX11_logEntry 19 = .ok (.goto 4, 3) := by decide +kernel
theorem dX11_logEntry_22 : decode cX11_logEntry 22 = .ok (.iconst 0, 1) := by decide +kernel
theorem dX11_logEntry_23 : decode cX11_logEntry 23 = .ok (.iconst 1, 1) := by decide +kernel
theorem dX11_logEntry_24 : decode cX11_logEntry 24 = .ok (.invokevirtual 328, 3) := by decide +kernel
theorem dX11_logEntry_27 : decode cX11_logEntry 27 = .ok (.ifCond .eq 5, 3) := by decide +kernel
theorem dX11_logEntry_30 : decode cX11_logEntry 30 = .ok (.iconst 0, 1) := by decide +kernel
theorem dX11_logEntry_31 : decode cX11_logEntry 31 = .ok (.ireturn, 1) := by decide +kernel
theorem dX11_logEntry_32 : decode cX11_logEntry 32 = .ok (.iload_n 1, 1) := by decide +kernel
theorem dX11_logEntry_33 : decode cX11_logEntry 33 = .ok (.i2l, 1) := by decide +kernel
theorem dX11_logEntry_34 : decode cX11_logEntry 34 = .ok (.lconst 0, 1) := by decide +kernel
theorem dX11_logEntry_35 : decode cX11_logEntry 35 = .ok (.aload_n 0, 1) := by decide +kernel
theorem dX11_logEntry_36 : decode cX11_logEntry 36 = .ok (.getfield 9, 3) := by decide +kernel
theorem dX11_logEntry_39 : decode cX11_logEntry 39 = .ok (.bipush 17, 2) := by decide +kernel
theorem dX11_logEntry_41 : decode cX11_logEntry 41 = .ok (.iaload, 1) := by decide +kernel
theorem dX11_logEntry_42 : decode cX11_logEntry 42 = .ok (.iconst 1, 1) := by decide +kernel
theorem dX11_logEntry_43 : decode cX11_logEntry 43 = .ok (.isub, 1) := by decide +kernel
theorem dX11_logEntry_44 : decode cX11_logEntry 44 = .ok (.i2l, 1) := by decide +kernel
theorem dX11_logEntry_45 : decode cX11_logEntry 45 = .ok (.invokestatic 70, 3) := by decide +kernel
theorem dX11_logEntry_48 : decode cX11_logEntry 48 = .ok (.ifCond .eq 20, 3) := by decide +kernel
theorem dX11_logEntry_51 : decode cX11_logEntry 51 = .ok (.aload_n 0, 1) := by decide +kernel
theorem dX11_logEntry_52 : decode cX11_logEntry 52 = .ok (.getfield 9, 3) := by decide +kernel
theorem dX11_logEntry_55 : decode cX11_logEntry 55 = .ok (.sipush 718, 3) := by decide +kernel
theorem dX11_logEntry_58 : decode cX11_logEntry 58 = .ok (.iconst 4, 1) := by decide +kernel
theorem dX11_logEntry_59 : decode cX11_logEntry 59 = .ok (.iload_n 1, 1) := by decide +kernel
theorem dX11_logEntry_60 : decode cX11_logEntry 60 = .ok (.imul, 1) := by decide +kernel
theorem dX11_logEntry_61 : decode cX11_logEntry 61 = .ok (.iadd, 1) := by decide +kernel
theorem dX11_logEntry_62 : decode cX11_logEntry 62 = .ok (.iload_n 2, 1) := by decide +kernel
theorem dX11_logEntry_63 : decode cX11_logEntry 63 = .ok (.iadd, 1) := by decide +kernel
theorem dX11_logEntry_64 : decode cX11_logEntry 64 = .ok (.iaload, 1) := by decide +kernel
theorem dX11_logEntry_65 : decode cX11_logEntry 65 = .ok (.goto 4, 3) := by decide +kernel
theorem dX11_logEntry_68 : decode cX11_logEntry 68 = .ok (.iconst (-1), 1) := by decide +kernel
theorem dX11_logEntry_69 : decode cX11_logEntry 69 = .ok (.ireturn, 1) := by decide +kernel
set_option maxRecDepth 100000 in
set_option maxHeartbeats 4000000 in
theorem m_X11_logEntry (l : Launch) (D : va_G) (ct : Nat → ClassId) (S : ty_S) (ws : va_W) (ph : va_W → Prop) (xx : Nat → Nat → Nat → Prop) (mo : Nat) (mw : Nat) (ma : Nat) (mf : Nat) (m0 : Nat) (m1 : Nat) (mu : Nat) (mv : Nat) (u0 : Nat) (u1 : Nat) (iz : Nat) (mb : Nat) (th : Int32) (mn : Int32) (mpt : Int32) (mbg : Int32) (mwr : Int32) (mwk : Int32) (mlf : Int32) (men : Int32) (f : Nat → Int32) (G : Nat → Int32) (cx : Int) (p1 : Int32) (p2 : Int32) (sz : Nat) (hT : ty_V ct S ph ws) (h_mu : S mu = some (.inr (1, 42))) (h_mv : S mv = some (.inr (1, 42))) (h_u0 : S u0 = some (.inr (1, 42))) (h_u1 : S u1 = some (.inr (1, 42))) (hph : ty_C ph xx) (hy1 : ty_y1 xx) (hR : rf_R G cx f) : Met l yX11_logEntry (ws_ yX11_logEntry cX11_logEntry 3 (some .int)) ({ frames := 1, cells := 0, slots := 0, locals := 25 } : Room) (va_Pc [.ref mo, .int p1, .int p2] (cmP D ct sz ([(rf_MO mo mw ma mf m0 m1 mu mv u0 u1 iz th mb mn mpt mbg mwr mwk mlf men), (rf_RW ct 0 mw 958 f)] ++ ws))) (va_Qi (fun (r : Int32) (u : va_W × Int32) => match u with | (u9, th1) => ty_V ct S ph u9) (cmB D ([(rf_MO mo mw ma mf m0 m1 mu mv u0 u1 iz th mb mn mpt mbg mwr mwk mlf men), (rf_RW ct 0 mw 958 f)] ++ ws) sz (fun (u : va_W × Int32) => match u with | (u9, th1) => ([(rf_MO mo mw ma mf m0 m1 mu mv u0 u1 iz th1 mb mn mpt mbg mwr mwk mlf men), (rf_RW ct 0 mw 958 f)] ++ u9))) (va_A ([(rf_MO mo mw ma mf m0 m1 mu mv u0 u1 iz th mb mn mpt mbg mwr mwk mlf men), (rf_RW ct 0 mw 958 f)] ++ ws) sz)) 0 0 (va_A ([(rf_MO mo mw ma mf m0 m1 mu mv u0 u1 iz th mb mn mpt mbg mwr mwk mlf men), (rf_RW ct 0 mw 958 f)] ++ ws) sz) := by
  refine Met.ofW (cc := cX11_logEntry) (maxL := 3) (ret := (some .int)) (by decide) rfl ?_
  intro p e s m args below meth c s₁ B hml hv
  obtain ⟨rfl, hsz, hP, hK, hD0, hX⟩ := hv
  have hx := B.exec
  have hb := B.bytes
  have hr := B.returns
  have hts := ws_all (atoms_spec (ws := ws_ yX11_logEntry cX11_logEntry 3 (some .int)) B.pre)
  have hown : s.vm.findClass RX11 = some m.cls := findClass_of_methodNamed B.named
  have hlocks := B.notSynchronized
  subst hsz
  have hD := hD0.self (sz := s.heap.size)
  generalize hAe : va_A ([(rf_MO mo mw ma mf m0 m1 mu mv u0 u1 iz th mb mn mpt mbg mwr mwk mlf men), (rf_RW ct 0 mw 958 f)] ++ ws) s.heap.size = A at hD hX ⊢
  have hA : ∀ q : Nat, s.heap.size ≤ q → A q := fun q h => by rw [← hAe]; exact Or.inr h
  have hS : va_S A s.heap s.heap [] := va_S.rf
  have hl := lv_entry ([.ref mo, .int p1, .int p2]) (n := 3) (Nat.le_of_ble_eq_true rfl)
  rw [lg_entry_eq]
  generalize (lg_sl ([.ref mo, .int p1, .int p2]) ++ List.replicate (3 - (lg_sl ([.ref mo, .int p1, .int p2])).length) Slot.unset).toArray = ls at hl ⊢
  have hl : lv_has ls 3 [(0, .ref mo), (1, .int p1), (2, .int p2)] := hl
  refine lv_aload_n hx hb dX11_logEntry_0 rfl (lv_at hl 0 rfl) ?_
  refine lv_iconst (v := 0) hx hb dX11_logEntry_1 (by decide) ?_
  refine va_put (v := .int 0) (ty := .int) (D := D) (ci := 11) (C := RX11) (T := TX11) (N := 19) hx hb hts in_X11 tyX11 tyX11_ok nmX11 hown hK hP hD hS 0 rfl rfl 10 (by decide) (hts _ kl_RX11_49) (fun _ h9 => h9) rfl (by decide +kernel) rfl rfl (Nat.le_of_ble_eq_true rfl) dX11_logEntry_2 (fun H locs hP hD hS => ?_)
  have hP : va_P D vwCl ([(rf_MO mo mw ma mf m0 m1 mu mv u0 u1 iz (0) mb mn mpt mbg mwr mwk mlf men), (rf_RW ct 0 mw 958 f)] ++ ws) H := hP
  have hD : va_D A ([(rf_MO mo mw ma mf m0 m1 mu mv u0 u1 iz (0) mb mn mpt mbg mwr mwk mlf men), (rf_RW ct 0 mw 958 f)] ++ ws) := hD
  refine lv_aload_n hx hb dX11_logEntry_5 rfl (lv_at hl 0 rfl) ?_
  refine lv_iload_n hx hb dX11_logEntry_6 rfl (lv_at hl 2 rfl) ?_
  refine lv_i2l hx hb dX11_logEntry_7 rfl ?_
  refine lv_lconst (v := 0) hx hb dX11_logEntry_8 (by decide) ?_
  refine lv_ldc2 hx hb hown (hts _ kl_RX11_358) dX11_logEntry_9 ?_
  refine ty_ki (wr := [(rf_MO mo mw ma mf m0 m1 mu mv u0 u1 iz (0) mb mn mpt mbg mwr mwk mlf men), (rf_RW ct 0 mw 958 f)]) (wc := ([] ++ ws)) (va_runS (As := [.long p2.toInt64, .long 0, .long 3]) (rest := [.ref mo]) ⟨hx, hb, hml, hown, hts⟩ (m_X11_in l D ct S ws ph xx p2.toInt64 (0 : Int64) (3 : Int64) _ hT hph hy1) (cm_S 3 hts kc_X11_in ki_RX11 kl_RX11_70 ks_X11_in kd_X11_in ⟨Nat.le_of_ble_eq_true rfl, Nat.le_of_ble_eq_true rfl⟩) (ty_preS (wr := [(rf_MO mo mw ma mf m0 m1 mu mv u0 u1 iz (0) mb mn mpt mbg mwr mwk mlf men), (rf_RW ct 0 mw 958 f)]) (wc := ([] ++ ws)) hP hK hD hS hA hX) rfl rfl hl.1 rfl (lv_room (Nat.le_of_ble_eq_true rfl)) dX11_logEntry_12 ⟨Nat.le_of_ble_eq_true rfl, Nat.le_of_ble_eq_true rfl⟩) hP hD hS hA (fun r_1 u H locs hw_2 hP hD hS => ?_)
  obtain ⟨ws_3, rfl⟩ : ∃ z, z = u := ⟨_, rfl⟩
  obtain ⟨hT, rfl⟩ := hw_2
  have hP : va_P D vwCl ([(rf_MO mo mw ma mf m0 m1 mu mv u0 u1 iz (0) mb mn mpt mbg mwr mwk mlf men), (rf_RW ct 0 mw 958 f)] ++ ws_3) H := hP
  have hD : va_D A ([(rf_MO mo mw ma mf m0 m1 mu mv u0 u1 iz (0) mb mn mpt mbg mwr mwk mlf men), (rf_RW ct 0 mw 958 f)] ++ ws_3) := hD
  refine lv_if_ne (tgt := 22) hx hb dX11_logEntry_15 (by decide) (fun hc_4 => ?_) (fun hc_4 => ?_)
  · refine lv_iconst (v := 0) hx hb dX11_logEntry_22 (by decide) ?_
    refine lv_iconst (v := 1) hx hb dX11_logEntry_23 (by decide) ?_
    have hP : va_P D vwCl ([(rf_RW ct 0 mw 958 f), (rf_MO mo mw ma mf m0 m1 mu mv u0 u1 iz (0) mb mn mpt mbg mwr mwk mlf men)] ++ ws_3) H := ty_permP hP (ty_ordp (E := [(rf_MO mo mw ma mf m0 m1 mu mv u0 u1 iz (0) mb mn mpt mbg mwr mwk mlf men), (rf_RW ct 0 mw 958 f)]) (E2 := [(rf_RW ct 0 mw 958 f), (rf_MO mo mw ma mf m0 m1 mu mv u0 u1 iz (0) mb mn mpt mbg mwr mwk mlf men)]) (n := 2) [1, 0] rfl rfl (by decide))
    have hD : va_D A ([(rf_RW ct 0 mw 958 f), (rf_MO mo mw ma mf m0 m1 mu mv u0 u1 iz (0) mb mn mpt mbg mwr mwk mlf men)] ++ ws_3) := ty_permD hD (ty_ordp (E := [(rf_MO mo mw ma mf m0 m1 mu mv u0 u1 iz (0) mb mn mpt mbg mwr mwk mlf men), (rf_RW ct 0 mw 958 f)]) (E2 := [(rf_RW ct 0 mw 958 f), (rf_MO mo mw ma mf m0 m1 mu mv u0 u1 iz (0) mb mn mpt mbg mwr mwk mlf men)]) (n := 2) [1, 0] rfl rfl (by decide))
    refine ty_ki (wr := [(rf_RW ct 0 mw 958 f)]) (wc := ([(rf_MO mo mw ma mf m0 m1 mu mv u0 u1 iz (0) mb mn mpt mbg mwr mwk mlf men)] ++ ws_3)) (va_runV (As := [.int 0, .int 1]) (rest := []) ⟨hx, hb, hml, hown, hts⟩ (m_X11_throwsIf l D ct S ws_3 ph xx mo mw ma mf m0 m1 mu mv u0 u1 iz mb (0 : Int32) mn mpt mbg mwr mwk mlf men (0 : Int32) (1 : Int32) _ hT h_mu h_mv h_u0 h_u1 hph hy1 (by decide)) (cm_V 2 hts kc_X11_throwsIf ki_RX11 kl_RX11_328 kv_X11_throwsIf kx_X11_throwsIf kd_X11_throwsIf ⟨Nat.le_of_ble_eq_true rfl, Nat.le_of_ble_eq_true rfl⟩) (ty_preE (wr := [(rf_RW ct 0 mw 958 f)]) (wc := ([(rf_MO mo mw ma mf m0 m1 mu mv u0 u1 iz (0) mb mn mpt mbg mwr mwk mlf men)] ++ ws_3)) (ci := 11) (q0 := 1) hP hK hD hS hA hX rfl rfl) rfl rfl hl.1 rfl (lv_room (Nat.le_of_ble_eq_true rfl)) dX11_logEntry_24 ⟨Nat.le_of_ble_eq_true rfl, Nat.le_of_ble_eq_true rfl⟩) hP hD hS hA (fun r_5 u H locs hw_6 hP hD hS => ?_)
    obtain ⟨ws_7, th1_8⟩ := u
    obtain ⟨hT, hp_9⟩ := hw_6
    have hp_9 : ((r_5 = 0 ∧ (0 : Int32) = 0) ∨ r_5 = 1) := hp_9
    have hP : va_P D vwCl ([(rf_RW ct 0 mw 958 f), (rf_MO mo mw ma mf m0 m1 mu mv u0 u1 iz th1_8 mb mn mpt mbg mwr mwk mlf men)] ++ ws_7) H := hP
    have hD : va_D A ([(rf_RW ct 0 mw 958 f), (rf_MO mo mw ma mf m0 m1 mu mv u0 u1 iz th1_8 mb mn mpt mbg mwr mwk mlf men)] ++ ws_7) := hD
    rcases hp_9 with ⟨rfl, hz_10⟩ | rfl
    · refine lv_if_eq (tgt := 32) hx hb dX11_logEntry_27 (by decide) (fun _ => ?_) (fun hc => absurd (by decide) hc)
      refine lv_iload_n hx hb dX11_logEntry_32 rfl (lv_at hl 1 rfl) ?_
      refine lv_i2l hx hb dX11_logEntry_33 rfl ?_
      refine lv_lconst (v := 0) hx hb dX11_logEntry_34 (by decide) ?_
      refine lv_aload_n hx hb dX11_logEntry_35 rfl (lv_at hl 0 rfl) ?_
      refine va_get (v := .ref mw) (D := D) (ci := 11) (C := RX11) (T := TX11) (N := 19) hx hb hts in_X11 hown hK hP 1 rfl rfl 0 (by decide) (hts _ kl_RX11_9) (fun _ h9 => h9) rfl dX11_logEntry_36 ?_
      refine lv_bipush (v := 17) hx hb dX11_logEntry_39 (by decide) ?_
      refine va_iald hx hb hK hP 0 0 rfl rfl (cm_vin (by decide)) dX11_logEntry_41 ?_
      refine cm_cst (y := (f 17)) (by first | rfl | decide +kernel) ?_
      refine lv_iconst (v := 1) hx hb dX11_logEntry_42 (by decide) ?_
      refine lv_isub hx hb dX11_logEntry_43 ?_
      refine lv_i2l hx hb dX11_logEntry_44 rfl ?_
      refine ty_ki (wr := [(rf_RW ct 0 mw 958 f), (rf_MO mo mw ma mf m0 m1 mu mv u0 u1 iz th1_8 mb mn mpt mbg mwr mwk mlf men)]) (wc := ([] ++ ws_7)) (va_runS (As := [.long p1.toInt64, .long 0, .long (((f 17) - 1).toInt64)]) (rest := []) ⟨hx, hb, hml, hown, hts⟩ (m_X11_in l D ct S ws_7 ph xx p1.toInt64 (0 : Int64) (((f 17) - 1).toInt64) _ hT hph hy1) (cm_S 3 hts kc_X11_in ki_RX11 kl_RX11_70 ks_X11_in kd_X11_in ⟨Nat.le_of_ble_eq_true rfl, Nat.le_of_ble_eq_true rfl⟩) (ty_preS (wr := [(rf_RW ct 0 mw 958 f), (rf_MO mo mw ma mf m0 m1 mu mv u0 u1 iz th1_8 mb mn mpt mbg mwr mwk mlf men)]) (wc := ([] ++ ws_7)) hP hK hD hS hA hX) rfl rfl hl.1 rfl (lv_room (Nat.le_of_ble_eq_true rfl)) dX11_logEntry_45 ⟨Nat.le_of_ble_eq_true rfl, Nat.le_of_ble_eq_true rfl⟩) hP hD hS hA (fun r_11 u H locs hw_12 hP hD hS => ?_)
      obtain ⟨ws_13, rfl⟩ : ∃ z, z = u := ⟨_, rfl⟩
      obtain ⟨hT, rfl⟩ := hw_12
      have hP : va_P D vwCl ([(rf_RW ct 0 mw 958 f), (rf_MO mo mw ma mf m0 m1 mu mv u0 u1 iz th1_8 mb mn mpt mbg mwr mwk mlf men)] ++ ws_13) H := hP
      have hD : va_D A ([(rf_RW ct 0 mw 958 f), (rf_MO mo mw ma mf m0 m1 mu mv u0 u1 iz th1_8 mb mn mpt mbg mwr mwk mlf men)] ++ ws_13) := hD
      refine lv_if_eq (tgt := 68) hx hb dX11_logEntry_48 (by decide) (fun hc_14 => ?_) (fun hc_14 => ?_)
      · refine lv_iconst (v := (-1)) hx hb dX11_logEntry_68 (by decide) ?_
        have hP : va_P D vwCl ([(rf_MO mo mw ma mf m0 m1 mu mv u0 u1 iz th1_8 mb mn mpt mbg mwr mwk mlf men), (rf_RW ct 0 mw 958 f)] ++ ws_13) H := ty_permP hP (ty_ordp (E := [(rf_RW ct 0 mw 958 f), (rf_MO mo mw ma mf m0 m1 mu mv u0 u1 iz th1_8 mb mn mpt mbg mwr mwk mlf men)]) (E2 := [(rf_MO mo mw ma mf m0 m1 mu mv u0 u1 iz th1_8 mb mn mpt mbg mwr mwk mlf men), (rf_RW ct 0 mw 958 f)]) (n := 2) [1, 0] rfl rfl (by decide))
        have hD : va_D A ([(rf_MO mo mw ma mf m0 m1 mu mv u0 u1 iz th1_8 mb mn mpt mbg mwr mwk mlf men), (rf_RW ct 0 mw 958 f)] ++ ws_13) := ty_permD hD (ty_ordp (E := [(rf_RW ct 0 mw 958 f), (rf_MO mo mw ma mf m0 m1 mu mv u0 u1 iz th1_8 mb mn mpt mbg mwr mwk mlf men)]) (E2 := [(rf_MO mo mw ma mf m0 m1 mu mv u0 u1 iz th1_8 mb mn mpt mbg mwr mwk mlf men), (rf_RW ct 0 mw 958 f)]) (n := 2) [1, 0] rfl rfl (by decide))
        exact W.iret (v := (-1)) hx hb hr (fun t ht hW => ⟨⟨(-1), (ws_13, th1_8), rfl, hT, by rw [ht]; exact hP, by rw [hAe]; exact hD⟩, hS.F ht⟩) hS.2.2 dX11_logEntry_69
      · refine lv_aload_n hx hb dX11_logEntry_51 rfl (lv_at hl 0 rfl) ?_
        refine va_get (v := .ref mw) (D := D) (ci := 11) (C := RX11) (T := TX11) (N := 19) hx hb hts in_X11 hown hK hP 1 rfl rfl 0 (by decide) (hts _ kl_RX11_9) (fun _ h9 => h9) rfl dX11_logEntry_52 ?_
        refine lv_sipush (v := 718) hx hb dX11_logEntry_55 (by decide) ?_
        refine lv_iconst (v := 4) hx hb dX11_logEntry_58 (by decide) ?_
        refine lv_iload_n hx hb dX11_logEntry_59 rfl (lv_at hl 1 rfl) ?_
        refine lv_imul hx hb dX11_logEntry_60 ?_
        refine lv_iadd hx hb dX11_logEntry_61 ?_
        refine lv_iload_n hx hb dX11_logEntry_62 rfl (lv_at hl 2 rfl) ?_
        refine lv_iadd hx hb dX11_logEntry_63 ?_
        refine va_iald hx hb hK hP 0 0 rfl rfl (rf_rix (A := 718) (B := 4) (N := 59) (by decide) (by decide) (by have := hR.2.2.1.2.2; have := rf_rngi (L := 0) (by decide) (by have := hR.2.2.1.2.2; omega) (rf_ne0 hc_14); omega) (by have := (rf_rngc (L := 0) (U := 3) (by decide) (by decide) hc_4); omega) (by omega) (by omega) (by omega) (by omega) (by have := (rf_rngc (L := 0) (U := 3) (by decide) (by decide) hc_4); omega)) dX11_logEntry_64 ?_
        refine lv_goto (tgt := 69) hx hb dX11_logEntry_65 (by decide) ?_
        have hP : va_P D vwCl ([(rf_MO mo mw ma mf m0 m1 mu mv u0 u1 iz th1_8 mb mn mpt mbg mwr mwk mlf men), (rf_RW ct 0 mw 958 f)] ++ ws_13) H := ty_permP hP (ty_ordp (E := [(rf_RW ct 0 mw 958 f), (rf_MO mo mw ma mf m0 m1 mu mv u0 u1 iz th1_8 mb mn mpt mbg mwr mwk mlf men)]) (E2 := [(rf_MO mo mw ma mf m0 m1 mu mv u0 u1 iz th1_8 mb mn mpt mbg mwr mwk mlf men), (rf_RW ct 0 mw 958 f)]) (n := 2) [1, 0] rfl rfl (by decide))
        have hD : va_D A ([(rf_MO mo mw ma mf m0 m1 mu mv u0 u1 iz th1_8 mb mn mpt mbg mwr mwk mlf men), (rf_RW ct 0 mw 958 f)] ++ ws_13) := ty_permD hD (ty_ordp (E := [(rf_RW ct 0 mw 958 f), (rf_MO mo mw ma mf m0 m1 mu mv u0 u1 iz th1_8 mb mn mpt mbg mwr mwk mlf men)]) (E2 := [(rf_MO mo mw ma mf m0 m1 mu mv u0 u1 iz th1_8 mb mn mpt mbg mwr mwk mlf men), (rf_RW ct 0 mw 958 f)]) (n := 2) [1, 0] rfl rfl (by decide))
        exact W.iret (v := (f ((718 + (4 * p1)) + p2).toNatClampNeg)) hx hb hr (fun t ht hW => ⟨⟨(f ((718 + (4 * p1)) + p2).toNatClampNeg), (ws_13, th1_8), rfl, hT, by rw [ht]; exact hP, by rw [hAe]; exact hD⟩, hS.F ht⟩) hS.2.2 dX11_logEntry_69
    · refine lv_if_eq (tgt := 32) hx hb dX11_logEntry_27 (by decide) (fun hc => absurd hc (by decide)) (fun _ => ?_)
      refine lv_iconst (v := 0) hx hb dX11_logEntry_30 (by decide) ?_
      have hP : va_P D vwCl ([(rf_MO mo mw ma mf m0 m1 mu mv u0 u1 iz th1_8 mb mn mpt mbg mwr mwk mlf men), (rf_RW ct 0 mw 958 f)] ++ ws_7) H := ty_permP hP (ty_ordp (E := [(rf_RW ct 0 mw 958 f), (rf_MO mo mw ma mf m0 m1 mu mv u0 u1 iz th1_8 mb mn mpt mbg mwr mwk mlf men)]) (E2 := [(rf_MO mo mw ma mf m0 m1 mu mv u0 u1 iz th1_8 mb mn mpt mbg mwr mwk mlf men), (rf_RW ct 0 mw 958 f)]) (n := 2) [1, 0] rfl rfl (by decide))
      have hD : va_D A ([(rf_MO mo mw ma mf m0 m1 mu mv u0 u1 iz th1_8 mb mn mpt mbg mwr mwk mlf men), (rf_RW ct 0 mw 958 f)] ++ ws_7) := ty_permD hD (ty_ordp (E := [(rf_RW ct 0 mw 958 f), (rf_MO mo mw ma mf m0 m1 mu mv u0 u1 iz th1_8 mb mn mpt mbg mwr mwk mlf men)]) (E2 := [(rf_MO mo mw ma mf m0 m1 mu mv u0 u1 iz th1_8 mb mn mpt mbg mwr mwk mlf men), (rf_RW ct 0 mw 958 f)]) (n := 2) [1, 0] rfl rfl (by decide))
      exact W.iret (v := 0) hx hb hr (fun t ht hW => ⟨⟨0, (ws_7, th1_8), rfl, hT, by rw [ht]; exact hP, by rw [hAe]; exact hD⟩, hS.F ht⟩) hS.2.2 dX11_logEntry_31
  · refine lv_iconst (v := 1) hx hb dX11_logEntry_18 (by decide) ?_
    refine lv_goto (tgt := 23) hx hb dX11_logEntry_19 (by decide) ?_
    refine lv_iconst (v := 1) hx hb dX11_logEntry_23 (by decide) ?_
    have hP : va_P D vwCl ([(rf_RW ct 0 mw 958 f), (rf_MO mo mw ma mf m0 m1 mu mv u0 u1 iz (0) mb mn mpt mbg mwr mwk mlf men)] ++ ws_3) H := ty_permP hP (ty_ordp (E := [(rf_MO mo mw ma mf m0 m1 mu mv u0 u1 iz (0) mb mn mpt mbg mwr mwk mlf men), (rf_RW ct 0 mw 958 f)]) (E2 := [(rf_RW ct 0 mw 958 f), (rf_MO mo mw ma mf m0 m1 mu mv u0 u1 iz (0) mb mn mpt mbg mwr mwk mlf men)]) (n := 2) [1, 0] rfl rfl (by decide))
    have hD : va_D A ([(rf_RW ct 0 mw 958 f), (rf_MO mo mw ma mf m0 m1 mu mv u0 u1 iz (0) mb mn mpt mbg mwr mwk mlf men)] ++ ws_3) := ty_permD hD (ty_ordp (E := [(rf_MO mo mw ma mf m0 m1 mu mv u0 u1 iz (0) mb mn mpt mbg mwr mwk mlf men), (rf_RW ct 0 mw 958 f)]) (E2 := [(rf_RW ct 0 mw 958 f), (rf_MO mo mw ma mf m0 m1 mu mv u0 u1 iz (0) mb mn mpt mbg mwr mwk mlf men)]) (n := 2) [1, 0] rfl rfl (by decide))
    refine ty_ki (wr := [(rf_RW ct 0 mw 958 f)]) (wc := ([(rf_MO mo mw ma mf m0 m1 mu mv u0 u1 iz (0) mb mn mpt mbg mwr mwk mlf men)] ++ ws_3)) (va_runV (As := [.int 1, .int 1]) (rest := []) ⟨hx, hb, hml, hown, hts⟩ (m_X11_throwsIf l D ct S ws_3 ph xx mo mw ma mf m0 m1 mu mv u0 u1 iz mb (0 : Int32) mn mpt mbg mwr mwk mlf men (1 : Int32) (1 : Int32) _ hT h_mu h_mv h_u0 h_u1 hph hy1 (by decide)) (cm_V 2 hts kc_X11_throwsIf ki_RX11 kl_RX11_328 kv_X11_throwsIf kx_X11_throwsIf kd_X11_throwsIf ⟨Nat.le_of_ble_eq_true rfl, Nat.le_of_ble_eq_true rfl⟩) (ty_preE (wr := [(rf_RW ct 0 mw 958 f)]) (wc := ([(rf_MO mo mw ma mf m0 m1 mu mv u0 u1 iz (0) mb mn mpt mbg mwr mwk mlf men)] ++ ws_3)) (ci := 11) (q0 := 1) hP hK hD hS hA hX rfl rfl) rfl rfl hl.1 rfl (lv_room (Nat.le_of_ble_eq_true rfl)) dX11_logEntry_24 ⟨Nat.le_of_ble_eq_true rfl, Nat.le_of_ble_eq_true rfl⟩) hP hD hS hA (fun r_15 u H locs hw_16 hP hD hS => ?_)
    obtain ⟨ws_17, th1_18⟩ := u
    obtain ⟨hT, hp_19⟩ := hw_16
    have hp_19 : ((r_15 = 0 ∧ (1 : Int32) = 0) ∨ r_15 = 1) := hp_19
    have hP : va_P D vwCl ([(rf_RW ct 0 mw 958 f), (rf_MO mo mw ma mf m0 m1 mu mv u0 u1 iz th1_18 mb mn mpt mbg mwr mwk mlf men)] ++ ws_17) H := hP
    have hD : va_D A ([(rf_RW ct 0 mw 958 f), (rf_MO mo mw ma mf m0 m1 mu mv u0 u1 iz th1_18 mb mn mpt mbg mwr mwk mlf men)] ++ ws_17) := hD
    rcases hp_19 with ⟨rfl, hz_20⟩ | rfl
    · exact absurd hz_20 (by decide)
    · refine lv_if_eq (tgt := 32) hx hb dX11_logEntry_27 (by decide) (fun hc => absurd hc (by decide)) (fun _ => ?_)
      refine lv_iconst (v := 0) hx hb dX11_logEntry_30 (by decide) ?_
      have hP : va_P D vwCl ([(rf_MO mo mw ma mf m0 m1 mu mv u0 u1 iz th1_18 mb mn mpt mbg mwr mwk mlf men), (rf_RW ct 0 mw 958 f)] ++ ws_17) H := ty_permP hP (ty_ordp (E := [(rf_RW ct 0 mw 958 f), (rf_MO mo mw ma mf m0 m1 mu mv u0 u1 iz th1_18 mb mn mpt mbg mwr mwk mlf men)]) (E2 := [(rf_MO mo mw ma mf m0 m1 mu mv u0 u1 iz th1_18 mb mn mpt mbg mwr mwk mlf men), (rf_RW ct 0 mw 958 f)]) (n := 2) [1, 0] rfl rfl (by decide))
      have hD : va_D A ([(rf_MO mo mw ma mf m0 m1 mu mv u0 u1 iz th1_18 mb mn mpt mbg mwr mwk mlf men), (rf_RW ct 0 mw 958 f)] ++ ws_17) := ty_permD hD (ty_ordp (E := [(rf_RW ct 0 mw 958 f), (rf_MO mo mw ma mf m0 m1 mu mv u0 u1 iz th1_18 mb mn mpt mbg mwr mwk mlf men)]) (E2 := [(rf_MO mo mw ma mf m0 m1 mu mv u0 u1 iz th1_18 mb mn mpt mbg mwr mwk mlf men), (rf_RW ct 0 mw 958 f)]) (n := 2) [1, 0] rfl rfl (by decide))
      exact W.iret (v := 0) hx hb hr (fun t ht hW => ⟨⟨0, (ws_17, th1_18), rfl, hT, by rw [ht]; exact hP, by rw [hAe]; exact hD⟩, hS.F ht⟩) hS.2.2 dX11_logEntry_31
theorem dX11_record_0 : decode cX11_record 0 = .ok (.aload_n 0, 1) := by decide +kernel
theorem dX11_record_1 : decode cX11_record 1 = .ok (.iconst 0, 1) := by decide +kernel
theorem dX11_record_2 : decode cX11_record 2 = .ok (.putfield 49, 3) := by decide +kernel
theorem dX11_record_5 : decode cX11_record 5 = .ok (.aload_n 0, 1) := by decide +kernel
theorem dX11_record_6 : decode cX11_record 6 = .ok (.iload_n 2, 1) := by decide +kernel
theorem dX11_record_7 : decode cX11_record 7 = .ok (.i2l, 1) := by decide +kernel
theorem dX11_record_8 : decode cX11_record 8 = .ok (.lconst 0, 1) := by decide +kernel
theorem dX11_record_9 : decode cX11_record 9 = .ok (.ldc2_w 360, 3) := by decide +kernel
theorem dX11_record_12 : decode cX11_record 12 = .ok (.invokestatic 70, 3) := by decide +kernel
theorem dX11_record_15 : decode cX11_record 15 = .ok (.ifCond .ne 7, 3) := by decide +kernel
theorem dX11_record_18 : decode cX11_record 18 = .ok (.iconst 1, 1) := by decide +kernel
theorem dX11_record_19 : decode cX11_record 19 = .ok (.goto 4, 3) := by decide +kernel
theorem dX11_record_22 : decode cX11_record 22 = .ok (.iconst 0, 1) := by decide +kernel
theorem dX11_record_23 : decode cX11_record 23 = .ok (.iconst 1, 1) := by decide +kernel
theorem dX11_record_24 : decode cX11_record 24 = .ok (.invokevirtual 328, 3) := by decide +kernel
theorem dX11_record_27 : decode cX11_record 27 = .ok (.ifCond .eq 5, 3) := by decide +kernel
theorem dX11_record_30 : decode cX11_record 30 = .ok (.iconst 0, 1) := by decide +kernel
theorem dX11_record_31 : decode cX11_record 31 = .ok (.ireturn, 1) := by decide +kernel
theorem dX11_record_32 : decode cX11_record 32 = .ok (.iload_n 1, 1) := by decide +kernel
theorem dX11_record_33 : decode cX11_record 33 = .ok (.i2l, 1) := by decide +kernel
theorem dX11_record_34 : decode cX11_record 34 = .ok (.lconst 0, 1) := by decide +kernel
theorem dX11_record_35 : decode cX11_record 35 = .ok (.aload_n 0, 1) := by decide +kernel
theorem dX11_record_36 : decode cX11_record 36 = .ok (.getfield 9, 3) := by decide +kernel
theorem dX11_record_39 : decode cX11_record 39 = .ok (.bipush 12, 2) := by decide +kernel
theorem dX11_record_41 : decode cX11_record 41 = .ok (.iaload, 1) := by decide +kernel
theorem dX11_record_42 : decode cX11_record 42 = .ok (.iconst 1, 1) := by decide +kernel
theorem dX11_record_43 : decode cX11_record 43 = .ok (.isub, 1) := by decide +kernel
theorem dX11_record_44 : decode cX11_record 44 = .ok (.i2l, 1) := by decide +kernel
theorem dX11_record_45 : decode cX11_record 45 = .ok (.invokestatic 70, 3) := by decide +kernel
theorem dX11_record_48 : decode cX11_record 48 = .ok (.ifCond .ne 5, 3) := by decide +kernel
theorem dX11_record_51 : decode cX11_record 51 = .ok (.iconst (-1), 1) := by decide +kernel
theorem dX11_record_52 : decode cX11_record 52 = .ok (.ireturn, 1) := by decide +kernel
theorem dX11_record_53 : decode cX11_record 53 = .ok (.iload_n 2, 1) := by decide +kernel
theorem dX11_record_54 : decode cX11_record 54 = .ok (.iconst 5, 1) := by decide +kernel
theorem dX11_record_55 : decode cX11_record 55 = .ok (.if_icmp .ge 10, 3) := by decide +kernel
theorem dX11_record_58 : decode cX11_record 58 = .ok (.aload_n 0, 1) := by decide +kernel
theorem dX11_record_59 : decode cX11_record 59 = .ok (.iload_n 1, 1) := by decide +kernel
theorem dX11_record_60 : decode cX11_record 60 = .ok (.iload_n 2, 1) := by decide +kernel
theorem dX11_record_61 : decode cX11_record 61 = .ok (.invokevirtual 369, 3) := by decide +kernel
theorem dX11_record_64 : decode cX11_record 64 = .ok (.ireturn, 1) := by decide +kernel
theorem dX11_record_65 : decode cX11_record 65 = .ok (.aload_n 0, 1) := by decide +kernel
theorem dX11_record_66 : decode cX11_record 66 = .ok (.iload_n 1, 1) := by decide +kernel
theorem dX11_record_67 : decode cX11_record 67 = .ok (.iconst 1, 1) := by decide +kernel
theorem dX11_record_68 : decode cX11_record 68 = .ok (.invokevirtual 369, 3) := by decide +kernel
theorem dX11_record_71 : decode cX11_record 71 = .ok (.ifCond .ne 7, 3) := by decide +kernel
theorem dX11_record_74 : decode cX11_record 74 = .ok (.iconst 0, 1) := by decide +kernel
theorem dX11_record_75 : decode cX11_record 75 = .ok (.goto 23, 3) := by decide +kernel
theorem dX11_record_78 : decode cX11_record 78 = .ok (.ldc2_w 303, 3) := by decide +kernel
theorem dX11_record_81 : decode cX11_record 81 = .ok (.aload_n 0, 1) := by decide +kernel
theorem dX11_record_82 : decode cX11_record 82 = .ok (.iload_n 1, 1) := by decide +kernel
theorem dX11_record_83 : decode cX11_record 83 = .ok (.iconst 2, 1) := by decide +kernel
theorem dX11_record_84 : decode cX11_record 84 = .ok (.invokevirtual 369, 3) := by decide +kernel
theorem dX11_record_87 : decode cX11_record 87 = .ok (.i2l, 1) := by decide +kernel
theorem dX11_record_88 : decode cX11_record 88 = .ok (.lmul, 1) := by decide +kernel
theorem dX11_record_89 : decode cX11_record 89 = .ok (.aload_n 0, 1) := by decide +kernel
theorem dX11_record_90 : decode cX11_record 90 = .ok (.iload_n 1, 1) := by decide +kernel
theorem dX11_record_91 : decode cX11_record 91 = .ok (.iconst 1, 1) := by decide +kernel
theorem dX11_record_92 : decode cX11_record 92 = .ok (.invokevirtual 369, 3) := by decide +kernel
theorem dX11_record_95 : decode cX11_record 95 = .ok (.i2l, 1) := by decide +kernel
theorem dX11_record_96 : decode cX11_record 96 = .ok (.ldiv, 1) := by decide +kernel
theorem dX11_record_97 : decode cX11_record 97 = .ok (.l2i, 1) := by decide +kernel
theorem dX11_record_98 : decode cX11_record 98 = .ok (.ireturn, 1) := by decide +kernel
set_option maxRecDepth 100000 in
set_option maxHeartbeats 4000000 in
theorem m_X11_record (l : Launch) (D : va_G) (ct : Nat → ClassId) (S : ty_S) (ws : va_W) (ph : va_W → Prop) (xx : Nat → Nat → Nat → Prop) (mo : Nat) (mw : Nat) (ma : Nat) (mf : Nat) (m0 : Nat) (m1 : Nat) (mu : Nat) (mv : Nat) (u0 : Nat) (u1 : Nat) (iz : Nat) (mb : Nat) (th : Int32) (mn : Int32) (mpt : Int32) (mbg : Int32) (mwr : Int32) (mwk : Int32) (mlf : Int32) (men : Int32) (f : Nat → Int32) (G : Nat → Int32) (cx : Int) (p1 : Int32) (p2 : Int32) (sz : Nat) (hT : ty_V ct S ph ws) (h_mu : S mu = some (.inr (1, 42))) (h_mv : S mv = some (.inr (1, 42))) (h_u0 : S u0 = some (.inr (1, 42))) (h_u1 : S u1 = some (.inr (1, 42))) (hph : ty_C ph xx) (hy1 : ty_y1 xx) (hR : rf_R G cx f) : Met l yX11_record (ws_ yX11_record cX11_record 3 (some .int)) ({ frames := 1, cells := 0, slots := 0, locals := 25 } : Room) (va_Pc [.ref mo, .int p1, .int p2] (cmP D ct sz ([(rf_MO mo mw ma mf m0 m1 mu mv u0 u1 iz th mb mn mpt mbg mwr mwk mlf men), (rf_RW ct 0 mw 958 f)] ++ ws))) (va_Qi (fun (r : Int32) (u : va_W × Int32) => match u with | (u9, th1) => ty_V ct S ph u9) (cmB D ([(rf_MO mo mw ma mf m0 m1 mu mv u0 u1 iz th mb mn mpt mbg mwr mwk mlf men), (rf_RW ct 0 mw 958 f)] ++ ws) sz (fun (u : va_W × Int32) => match u with | (u9, th1) => ([(rf_MO mo mw ma mf m0 m1 mu mv u0 u1 iz th1 mb mn mpt mbg mwr mwk mlf men), (rf_RW ct 0 mw 958 f)] ++ u9))) (va_A ([(rf_MO mo mw ma mf m0 m1 mu mv u0 u1 iz th mb mn mpt mbg mwr mwk mlf men), (rf_RW ct 0 mw 958 f)] ++ ws) sz)) 0 0 (va_A ([(rf_MO mo mw ma mf m0 m1 mu mv u0 u1 iz th mb mn mpt mbg mwr mwk mlf men), (rf_RW ct 0 mw 958 f)] ++ ws) sz) := by
  refine Met.ofW (cc := cX11_record) (maxL := 3) (ret := (some .int)) (by decide) rfl ?_
  intro p e s m args below meth c s₁ B hml hv
  obtain ⟨rfl, hsz, hP, hK, hD0, hX⟩ := hv
  have hx := B.exec
  have hb := B.bytes
  have hr := B.returns
  have hts := ws_all (atoms_spec (ws := ws_ yX11_record cX11_record 3 (some .int)) B.pre)
  have hown : s.vm.findClass RX11 = some m.cls := findClass_of_methodNamed B.named
  have hlocks := B.notSynchronized
  subst hsz
  have hD := hD0.self (sz := s.heap.size)
  generalize hAe : va_A ([(rf_MO mo mw ma mf m0 m1 mu mv u0 u1 iz th mb mn mpt mbg mwr mwk mlf men), (rf_RW ct 0 mw 958 f)] ++ ws) s.heap.size = A at hD hX ⊢
  have hA : ∀ q : Nat, s.heap.size ≤ q → A q := fun q h => by rw [← hAe]; exact Or.inr h
  have hS : va_S A s.heap s.heap [] := va_S.rf
  have hl := lv_entry ([.ref mo, .int p1, .int p2]) (n := 3) (Nat.le_of_ble_eq_true rfl)
  rw [lg_entry_eq]
  generalize (lg_sl ([.ref mo, .int p1, .int p2]) ++ List.replicate (3 - (lg_sl ([.ref mo, .int p1, .int p2])).length) Slot.unset).toArray = ls at hl ⊢
  have hl : lv_has ls 3 [(0, .ref mo), (1, .int p1), (2, .int p2)] := hl
  refine lv_aload_n hx hb dX11_record_0 rfl (lv_at hl 0 rfl) ?_
  refine lv_iconst (v := 0) hx hb dX11_record_1 (by decide) ?_
  refine va_put (v := .int 0) (ty := .int) (D := D) (ci := 11) (C := RX11) (T := TX11) (N := 19) hx hb hts in_X11 tyX11 tyX11_ok nmX11 hown hK hP hD hS 0 rfl rfl 10 (by decide) (hts _ kl_RX11_49) (fun _ h9 => h9) rfl (by decide +kernel) rfl rfl (Nat.le_of_ble_eq_true rfl) dX11_record_2 (fun H locs hP hD hS => ?_)
  have hP : va_P D vwCl ([(rf_MO mo mw ma mf m0 m1 mu mv u0 u1 iz (0) mb mn mpt mbg mwr mwk mlf men), (rf_RW ct 0 mw 958 f)] ++ ws) H := hP
  have hD : va_D A ([(rf_MO mo mw ma mf m0 m1 mu mv u0 u1 iz (0) mb mn mpt mbg mwr mwk mlf men), (rf_RW ct 0 mw 958 f)] ++ ws) := hD
  refine lv_aload_n hx hb dX11_record_5 rfl (lv_at hl 0 rfl) ?_
  refine lv_iload_n hx hb dX11_record_6 rfl (lv_at hl 2 rfl) ?_
  refine lv_i2l hx hb dX11_record_7 rfl ?_
  refine lv_lconst (v := 0) hx hb dX11_record_8 (by decide) ?_
  refine lv_ldc2 hx hb hown (hts _ kl_RX11_360) dX11_record_9 ?_
  refine ty_ki (wr := [(rf_MO mo mw ma mf m0 m1 mu mv u0 u1 iz (0) mb mn mpt mbg mwr mwk mlf men), (rf_RW ct 0 mw 958 f)]) (wc := ([] ++ ws)) (va_runS (As := [.long p2.toInt64, .long 0, .long 5]) (rest := [.ref mo]) ⟨hx, hb, hml, hown, hts⟩ (m_X11_in l D ct S ws ph xx p2.toInt64 (0 : Int64) (5 : Int64) _ hT hph hy1) (cm_S 3 hts kc_X11_in ki_RX11 kl_RX11_70 ks_X11_in kd_X11_in ⟨Nat.le_of_ble_eq_true rfl, Nat.le_of_ble_eq_true rfl⟩) (ty_preS (wr := [(rf_MO mo mw ma mf m0 m1 mu mv u0 u1 iz (0) mb mn mpt mbg mwr mwk mlf men), (rf_RW ct 0 mw 958 f)]) (wc := ([] ++ ws)) hP hK hD hS hA hX) rfl rfl hl.1 rfl (lv_room (Nat.le_of_ble_eq_true rfl)) dX11_record_12 ⟨Nat.le_of_ble_eq_true rfl, Nat.le_of_ble_eq_true rfl⟩) hP hD hS hA (fun r_1 u H locs hw_2 hP hD hS => ?_)
  obtain ⟨ws_3, rfl⟩ : ∃ z, z = u := ⟨_, rfl⟩
  obtain ⟨hT, rfl⟩ := hw_2
  have hP : va_P D vwCl ([(rf_MO mo mw ma mf m0 m1 mu mv u0 u1 iz (0) mb mn mpt mbg mwr mwk mlf men), (rf_RW ct 0 mw 958 f)] ++ ws_3) H := hP
  have hD : va_D A ([(rf_MO mo mw ma mf m0 m1 mu mv u0 u1 iz (0) mb mn mpt mbg mwr mwk mlf men), (rf_RW ct 0 mw 958 f)] ++ ws_3) := hD
  refine lv_if_ne (tgt := 22) hx hb dX11_record_15 (by decide) (fun hc_4 => ?_) (fun hc_4 => ?_)
  · refine lv_iconst (v := 0) hx hb dX11_record_22 (by decide) ?_
    refine lv_iconst (v := 1) hx hb dX11_record_23 (by decide) ?_
    have hP : va_P D vwCl ([(rf_RW ct 0 mw 958 f), (rf_MO mo mw ma mf m0 m1 mu mv u0 u1 iz (0) mb mn mpt mbg mwr mwk mlf men)] ++ ws_3) H := ty_permP hP (ty_ordp (E := [(rf_MO mo mw ma mf m0 m1 mu mv u0 u1 iz (0) mb mn mpt mbg mwr mwk mlf men), (rf_RW ct 0 mw 958 f)]) (E2 := [(rf_RW ct 0 mw 958 f), (rf_MO mo mw ma mf m0 m1 mu mv u0 u1 iz (0) mb mn mpt mbg mwr mwk mlf men)]) (n := 2) [1, 0] rfl rfl (by decide))
    have hD : va_D A ([(rf_RW ct 0 mw 958 f), (rf_MO mo mw ma mf m0 m1 mu mv u0 u1 iz (0) mb mn mpt mbg mwr mwk mlf men)] ++ ws_3) := ty_permD hD (ty_ordp (E := [(rf_MO mo mw ma mf m0 m1 mu mv u0 u1 iz (0) mb mn mpt mbg mwr mwk mlf men), (rf_RW ct 0 mw 958 f)]) (E2 := [(rf_RW ct 0 mw 958 f), (rf_MO mo mw ma mf m0 m1 mu mv u0 u1 iz (0) mb mn mpt mbg mwr mwk mlf men)]) (n := 2) [1, 0] rfl rfl (by decide))
    refine ty_ki (wr := [(rf_RW ct 0 mw 958 f)]) (wc := ([(rf_MO mo mw ma mf m0 m1 mu mv u0 u1 iz (0) mb mn mpt mbg mwr mwk mlf men)] ++ ws_3)) (va_runV (As := [.int 0, .int 1]) (rest := []) ⟨hx, hb, hml, hown, hts⟩ (m_X11_throwsIf l D ct S ws_3 ph xx mo mw ma mf m0 m1 mu mv u0 u1 iz mb (0 : Int32) mn mpt mbg mwr mwk mlf men (0 : Int32) (1 : Int32) _ hT h_mu h_mv h_u0 h_u1 hph hy1 (by decide)) (cm_V 2 hts kc_X11_throwsIf ki_RX11 kl_RX11_328 kv_X11_throwsIf kx_X11_throwsIf kd_X11_throwsIf ⟨Nat.le_of_ble_eq_true rfl, Nat.le_of_ble_eq_true rfl⟩) (ty_preE (wr := [(rf_RW ct 0 mw 958 f)]) (wc := ([(rf_MO mo mw ma mf m0 m1 mu mv u0 u1 iz (0) mb mn mpt mbg mwr mwk mlf men)] ++ ws_3)) (ci := 11) (q0 := 1) hP hK hD hS hA hX rfl rfl) rfl rfl hl.1 rfl (lv_room (Nat.le_of_ble_eq_true rfl)) dX11_record_24 ⟨Nat.le_of_ble_eq_true rfl, Nat.le_of_ble_eq_true rfl⟩) hP hD hS hA (fun r_5 u H locs hw_6 hP hD hS => ?_)
    obtain ⟨ws_7, th1_8⟩ := u
    obtain ⟨hT, hp_9⟩ := hw_6
    have hp_9 : ((r_5 = 0 ∧ (0 : Int32) = 0) ∨ r_5 = 1) := hp_9
    have hP : va_P D vwCl ([(rf_RW ct 0 mw 958 f), (rf_MO mo mw ma mf m0 m1 mu mv u0 u1 iz th1_8 mb mn mpt mbg mwr mwk mlf men)] ++ ws_7) H := hP
    have hD : va_D A ([(rf_RW ct 0 mw 958 f), (rf_MO mo mw ma mf m0 m1 mu mv u0 u1 iz th1_8 mb mn mpt mbg mwr mwk mlf men)] ++ ws_7) := hD
    rcases hp_9 with ⟨rfl, hz_10⟩ | rfl
    · refine lv_if_eq (tgt := 32) hx hb dX11_record_27 (by decide) (fun _ => ?_) (fun hc => absurd (by decide) hc)
      refine lv_iload_n hx hb dX11_record_32 rfl (lv_at hl 1 rfl) ?_
      refine lv_i2l hx hb dX11_record_33 rfl ?_
      refine lv_lconst (v := 0) hx hb dX11_record_34 (by decide) ?_
      refine lv_aload_n hx hb dX11_record_35 rfl (lv_at hl 0 rfl) ?_
      refine va_get (v := .ref mw) (D := D) (ci := 11) (C := RX11) (T := TX11) (N := 19) hx hb hts in_X11 hown hK hP 1 rfl rfl 0 (by decide) (hts _ kl_RX11_9) (fun _ h9 => h9) rfl dX11_record_36 ?_
      refine lv_bipush (v := 12) hx hb dX11_record_39 (by decide) ?_
      refine va_iald hx hb hK hP 0 0 rfl rfl (cm_vin (by decide)) dX11_record_41 ?_
      refine cm_cst (y := (f 12)) (by first | rfl | decide +kernel) ?_
      refine lv_iconst (v := 1) hx hb dX11_record_42 (by decide) ?_
      refine lv_isub hx hb dX11_record_43 ?_
      refine lv_i2l hx hb dX11_record_44 rfl ?_
      refine ty_ki (wr := [(rf_RW ct 0 mw 958 f), (rf_MO mo mw ma mf m0 m1 mu mv u0 u1 iz th1_8 mb mn mpt mbg mwr mwk mlf men)]) (wc := ([] ++ ws_7)) (va_runS (As := [.long p1.toInt64, .long 0, .long (((f 12) - 1).toInt64)]) (rest := []) ⟨hx, hb, hml, hown, hts⟩ (m_X11_in l D ct S ws_7 ph xx p1.toInt64 (0 : Int64) (((f 12) - 1).toInt64) _ hT hph hy1) (cm_S 3 hts kc_X11_in ki_RX11 kl_RX11_70 ks_X11_in kd_X11_in ⟨Nat.le_of_ble_eq_true rfl, Nat.le_of_ble_eq_true rfl⟩) (ty_preS (wr := [(rf_RW ct 0 mw 958 f), (rf_MO mo mw ma mf m0 m1 mu mv u0 u1 iz th1_8 mb mn mpt mbg mwr mwk mlf men)]) (wc := ([] ++ ws_7)) hP hK hD hS hA hX) rfl rfl hl.1 rfl (lv_room (Nat.le_of_ble_eq_true rfl)) dX11_record_45 ⟨Nat.le_of_ble_eq_true rfl, Nat.le_of_ble_eq_true rfl⟩) hP hD hS hA (fun r_11 u H locs hw_12 hP hD hS => ?_)
      obtain ⟨ws_13, rfl⟩ : ∃ z, z = u := ⟨_, rfl⟩
      obtain ⟨hT, rfl⟩ := hw_12
      have hP : va_P D vwCl ([(rf_RW ct 0 mw 958 f), (rf_MO mo mw ma mf m0 m1 mu mv u0 u1 iz th1_8 mb mn mpt mbg mwr mwk mlf men)] ++ ws_13) H := hP
      have hD : va_D A ([(rf_RW ct 0 mw 958 f), (rf_MO mo mw ma mf m0 m1 mu mv u0 u1 iz th1_8 mb mn mpt mbg mwr mwk mlf men)] ++ ws_13) := hD
      refine lv_if_ne (tgt := 53) hx hb dX11_record_48 (by decide) (fun hc_14 => ?_) (fun hc_14 => ?_)
      · refine lv_iload_n hx hb dX11_record_53 rfl (lv_at hl 2 rfl) ?_
        refine lv_iconst (v := 5) hx hb dX11_record_54 (by decide) ?_
        refine lv_icmp_ge (tgt := 65) hx hb dX11_record_55 (by decide) (fun hc_15 => ?_) (fun hc_15 => ?_)
        · refine lv_aload_n hx hb dX11_record_65 rfl (lv_at hl 0 rfl) ?_
          refine lv_iload_n hx hb dX11_record_66 rfl (lv_at hl 1 rfl) ?_
          refine lv_iconst (v := 1) hx hb dX11_record_67 (by decide) ?_
          have hP : va_P D vwCl ([(rf_MO mo mw ma mf m0 m1 mu mv u0 u1 iz th1_8 mb mn mpt mbg mwr mwk mlf men), (rf_RW ct 0 mw 958 f)] ++ ws_13) H := ty_permP hP (ty_ordp (E := [(rf_RW ct 0 mw 958 f), (rf_MO mo mw ma mf m0 m1 mu mv u0 u1 iz th1_8 mb mn mpt mbg mwr mwk mlf men)]) (E2 := [(rf_MO mo mw ma mf m0 m1 mu mv u0 u1 iz th1_8 mb mn mpt mbg mwr mwk mlf men), (rf_RW ct 0 mw 958 f)]) (n := 2) [1, 0] rfl rfl (by decide))
          have hD : va_D A ([(rf_MO mo mw ma mf m0 m1 mu mv u0 u1 iz th1_8 mb mn mpt mbg mwr mwk mlf men), (rf_RW ct 0 mw 958 f)] ++ ws_13) := ty_permD hD (ty_ordp (E := [(rf_RW ct 0 mw 958 f), (rf_MO mo mw ma mf m0 m1 mu mv u0 u1 iz th1_8 mb mn mpt mbg mwr mwk mlf men)]) (E2 := [(rf_MO mo mw ma mf m0 m1 mu mv u0 u1 iz th1_8 mb mn mpt mbg mwr mwk mlf men), (rf_RW ct 0 mw 958 f)]) (n := 2) [1, 0] rfl rfl (by decide))
          refine ty_ki (wr := []) (wc := ([(rf_MO mo mw ma mf m0 m1 mu mv u0 u1 iz th1_8 mb mn mpt mbg mwr mwk mlf men), (rf_RW ct 0 mw 958 f)] ++ ws_13)) (va_runV (As := [.int p1, .int 1]) (rest := []) ⟨hx, hb, hml, hown, hts⟩ (m_X11_recorded l D ct S ws_13 ph xx mo mw ma mf m0 m1 mu mv u0 u1 iz mb th1_8 mn mpt mbg mwr mwk mlf men f G cx p1 (1 : Int32) _ hT h_mu h_mv h_u0 h_u1 hph hy1 hR (by have := hR.2.2.1.1; have := rf_rngi (L := 0) (by decide) (by have := hR.2.2.1.1; omega) (rf_ne0 hc_14); omega) (by decide)) (cm_V 2 hts kc_X11_recorded ki_RX11 kl_RX11_369 kv_X11_recorded kx_X11_recorded kd_X11_recorded ⟨Nat.le_of_ble_eq_true rfl, Nat.le_of_ble_eq_true rfl⟩) (ty_preE (wr := []) (wc := ([(rf_MO mo mw ma mf m0 m1 mu mv u0 u1 iz th1_8 mb mn mpt mbg mwr mwk mlf men), (rf_RW ct 0 mw 958 f)] ++ ws_13)) (ci := 11) (q0 := 0) hP hK hD hS hA hX rfl rfl) rfl rfl hl.1 rfl (lv_room (Nat.le_of_ble_eq_true rfl)) dX11_record_68 ⟨Nat.le_of_ble_eq_true rfl, Nat.le_of_ble_eq_true rfl⟩) hP hD hS hA (fun r_16 u H locs hw_17 hP hD hS => ?_)
          obtain ⟨ws_18, rfl⟩ : ∃ z, z = u := ⟨_, rfl⟩
          obtain ⟨hT, rfl⟩ := hw_17
          have hP : va_P D vwCl ([(rf_MO mo mw ma mf m0 m1 mu mv u0 u1 iz th1_8 mb mn mpt mbg mwr mwk mlf men), (rf_RW ct 0 mw 958 f)] ++ ws_18) H := hP
          have hD : va_D A ([(rf_MO mo mw ma mf m0 m1 mu mv u0 u1 iz th1_8 mb mn mpt mbg mwr mwk mlf men), (rf_RW ct 0 mw 958 f)] ++ ws_18) := hD
          refine lv_if_ne (tgt := 78) hx hb dX11_record_71 (by decide) (fun hc_19 => ?_) (fun hc_19 => ?_)
          · refine lv_ldc2 hx hb hown (hts _ kl_RX11_303) dX11_record_78 ?_
            refine lv_aload_n hx hb dX11_record_81 rfl (lv_at hl 0 rfl) ?_
            refine lv_iload_n hx hb dX11_record_82 rfl (lv_at hl 1 rfl) ?_
            refine lv_iconst (v := 2) hx hb dX11_record_83 (by decide) ?_
            refine ty_ki (wr := []) (wc := ([(rf_MO mo mw ma mf m0 m1 mu mv u0 u1 iz th1_8 mb mn mpt mbg mwr mwk mlf men), (rf_RW ct 0 mw 958 f)] ++ ws_18)) (va_runV (As := [.int p1, .int 2]) (rest := [.long 1000]) ⟨hx, hb, hml, hown, hts⟩ (m_X11_recorded l D ct S ws_18 ph xx mo mw ma mf m0 m1 mu mv u0 u1 iz mb th1_8 mn mpt mbg mwr mwk mlf men f G cx p1 (2 : Int32) _ hT h_mu h_mv h_u0 h_u1 hph hy1 hR (by have := hR.2.2.1.1; have := rf_rngi (L := 0) (by decide) (by have := hR.2.2.1.1; omega) (rf_ne0 hc_14); omega) (by decide)) (cm_V 2 hts kc_X11_recorded ki_RX11 kl_RX11_369 kv_X11_recorded kx_X11_recorded kd_X11_recorded ⟨Nat.le_of_ble_eq_true rfl, Nat.le_of_ble_eq_true rfl⟩) (ty_preE (wr := []) (wc := ([(rf_MO mo mw ma mf m0 m1 mu mv u0 u1 iz th1_8 mb mn mpt mbg mwr mwk mlf men), (rf_RW ct 0 mw 958 f)] ++ ws_18)) (ci := 11) (q0 := 0) hP hK hD hS hA hX rfl rfl) rfl rfl hl.1 rfl (lv_room (Nat.le_of_ble_eq_true rfl)) dX11_record_84 ⟨Nat.le_of_ble_eq_true rfl, Nat.le_of_ble_eq_true rfl⟩) hP hD hS hA (fun r_20 u H locs hw_21 hP hD hS => ?_)
            obtain ⟨ws_22, rfl⟩ : ∃ z, z = u := ⟨_, rfl⟩
            obtain ⟨hT, rfl⟩ := hw_21
            have hP : va_P D vwCl ([(rf_MO mo mw ma mf m0 m1 mu mv u0 u1 iz th1_8 mb mn mpt mbg mwr mwk mlf men), (rf_RW ct 0 mw 958 f)] ++ ws_22) H := hP
            have hD : va_D A ([(rf_MO mo mw ma mf m0 m1 mu mv u0 u1 iz th1_8 mb mn mpt mbg mwr mwk mlf men), (rf_RW ct 0 mw 958 f)] ++ ws_22) := hD
            refine lv_i2l hx hb dX11_record_87 rfl ?_
            refine lv_lmul hx hb dX11_record_88 ?_
            refine lv_topl (fun x_23 _ => ?_)
            refine lv_aload_n hx hb dX11_record_89 rfl (lv_at hl 0 rfl) ?_
            refine lv_iload_n hx hb dX11_record_90 rfl (lv_at hl 1 rfl) ?_
            refine lv_iconst (v := 1) hx hb dX11_record_91 (by decide) ?_
            refine ty_ki (wr := []) (wc := ([(rf_MO mo mw ma mf m0 m1 mu mv u0 u1 iz th1_8 mb mn mpt mbg mwr mwk mlf men), (rf_RW ct 0 mw 958 f)] ++ ws_22)) (va_runV (As := [.int p1, .int 1]) (rest := [.long x_23]) ⟨hx, hb, hml, hown, hts⟩ (m_X11_recorded l D ct S ws_22 ph xx mo mw ma mf m0 m1 mu mv u0 u1 iz mb th1_8 mn mpt mbg mwr mwk mlf men f G cx p1 (1 : Int32) _ hT h_mu h_mv h_u0 h_u1 hph hy1 hR (by have := hR.2.2.1.1; have := rf_rngi (L := 0) (by decide) (by have := hR.2.2.1.1; omega) (rf_ne0 hc_14); omega) (by decide)) (cm_V 2 hts kc_X11_recorded ki_RX11 kl_RX11_369 kv_X11_recorded kx_X11_recorded kd_X11_recorded ⟨Nat.le_of_ble_eq_true rfl, Nat.le_of_ble_eq_true rfl⟩) (ty_preE (wr := []) (wc := ([(rf_MO mo mw ma mf m0 m1 mu mv u0 u1 iz th1_8 mb mn mpt mbg mwr mwk mlf men), (rf_RW ct 0 mw 958 f)] ++ ws_22)) (ci := 11) (q0 := 0) hP hK hD hS hA hX rfl rfl) rfl rfl hl.1 rfl (lv_room (Nat.le_of_ble_eq_true rfl)) dX11_record_92 ⟨Nat.le_of_ble_eq_true rfl, Nat.le_of_ble_eq_true rfl⟩) hP hD hS hA (fun r_24 u H locs hw_25 hP hD hS => ?_)
            obtain ⟨ws_26, rfl⟩ : ∃ z, z = u := ⟨_, rfl⟩
            obtain ⟨hT, rfl⟩ := hw_25
            have hP : va_P D vwCl ([(rf_MO mo mw ma mf m0 m1 mu mv u0 u1 iz th1_8 mb mn mpt mbg mwr mwk mlf men), (rf_RW ct 0 mw 958 f)] ++ ws_26) H := hP
            have hD : va_D A ([(rf_MO mo mw ma mf m0 m1 mu mv u0 u1 iz th1_8 mb mn mpt mbg mwr mwk mlf men), (rf_RW ct 0 mw 958 f)] ++ ws_26) := hD
            refine lv_i2l hx hb dX11_record_95 rfl ?_
            refine lv_ldiv hx hb dX11_record_96 (fun h9 => hc_19 (rf_l0 h9)) ?_
            refine lv_l2i hx hb dX11_record_97 rfl ?_
            refine lv_topi (fun x_27 _ => ?_)
            exact W.iret (v := x_27) hx hb hr (fun t ht hW => ⟨⟨x_27, (ws_26, th1_8), rfl, hT, by rw [ht]; exact hP, by rw [hAe]; exact hD⟩, hS.F ht⟩) hS.2.2 dX11_record_98
          · refine lv_iconst (v := 0) hx hb dX11_record_74 (by decide) ?_
            refine lv_goto (tgt := 98) hx hb dX11_record_75 (by decide) ?_
            exact W.iret (v := 0) hx hb hr (fun t ht hW => ⟨⟨0, (ws_18, th1_8), rfl, hT, by rw [ht]; exact hP, by rw [hAe]; exact hD⟩, hS.F ht⟩) hS.2.2 dX11_record_98
        · refine lv_aload_n hx hb dX11_record_58 rfl (lv_at hl 0 rfl) ?_
          refine lv_iload_n hx hb dX11_record_59 rfl (lv_at hl 1 rfl) ?_
          refine lv_iload_n hx hb dX11_record_60 rfl (lv_at hl 2 rfl) ?_
          have hP : va_P D vwCl ([(rf_MO mo mw ma mf m0 m1 mu mv u0 u1 iz th1_8 mb mn mpt mbg mwr mwk mlf men), (rf_RW ct 0 mw 958 f)] ++ ws_13) H := ty_permP hP (ty_ordp (E := [(rf_RW ct 0 mw 958 f), (rf_MO mo mw ma mf m0 m1 mu mv u0 u1 iz th1_8 mb mn mpt mbg mwr mwk mlf men)]) (E2 := [(rf_MO mo mw ma mf m0 m1 mu mv u0 u1 iz th1_8 mb mn mpt mbg mwr mwk mlf men), (rf_RW ct 0 mw 958 f)]) (n := 2) [1, 0] rfl rfl (by decide))
          have hD : va_D A ([(rf_MO mo mw ma mf m0 m1 mu mv u0 u1 iz th1_8 mb mn mpt mbg mwr mwk mlf men), (rf_RW ct 0 mw 958 f)] ++ ws_13) := ty_permD hD (ty_ordp (E := [(rf_RW ct 0 mw 958 f), (rf_MO mo mw ma mf m0 m1 mu mv u0 u1 iz th1_8 mb mn mpt mbg mwr mwk mlf men)]) (E2 := [(rf_MO mo mw ma mf m0 m1 mu mv u0 u1 iz th1_8 mb mn mpt mbg mwr mwk mlf men), (rf_RW ct 0 mw 958 f)]) (n := 2) [1, 0] rfl rfl (by decide))
          refine ty_ki (wr := []) (wc := ([(rf_MO mo mw ma mf m0 m1 mu mv u0 u1 iz th1_8 mb mn mpt mbg mwr mwk mlf men), (rf_RW ct 0 mw 958 f)] ++ ws_13)) (va_runV (As := [.int p1, .int p2]) (rest := []) ⟨hx, hb, hml, hown, hts⟩ (m_X11_recorded l D ct S ws_13 ph xx mo mw ma mf m0 m1 mu mv u0 u1 iz mb th1_8 mn mpt mbg mwr mwk mlf men f G cx p1 p2 _ hT h_mu h_mv h_u0 h_u1 hph hy1 hR (by have := hR.2.2.1.1; have := rf_rngi (L := 0) (by decide) (by have := hR.2.2.1.1; omega) (rf_ne0 hc_14); omega) (by have := (rf_rngc (L := 0) (U := 5) (by decide) (by decide) hc_4); have := rf_ng (b := 5) (by decide) hc_15; omega)) (cm_V 2 hts kc_X11_recorded ki_RX11 kl_RX11_369 kv_X11_recorded kx_X11_recorded kd_X11_recorded ⟨Nat.le_of_ble_eq_true rfl, Nat.le_of_ble_eq_true rfl⟩) (ty_preE (wr := []) (wc := ([(rf_MO mo mw ma mf m0 m1 mu mv u0 u1 iz th1_8 mb mn mpt mbg mwr mwk mlf men), (rf_RW ct 0 mw 958 f)] ++ ws_13)) (ci := 11) (q0 := 0) hP hK hD hS hA hX rfl rfl) rfl rfl hl.1 rfl (lv_room (Nat.le_of_ble_eq_true rfl)) dX11_record_61 ⟨Nat.le_of_ble_eq_true rfl, Nat.le_of_ble_eq_true rfl⟩) hP hD hS hA (fun r_28 u H locs hw_29 hP hD hS => ?_)
          obtain ⟨ws_30, rfl⟩ : ∃ z, z = u := ⟨_, rfl⟩
          obtain ⟨hT, rfl⟩ := hw_29
          have hP : va_P D vwCl ([(rf_MO mo mw ma mf m0 m1 mu mv u0 u1 iz th1_8 mb mn mpt mbg mwr mwk mlf men), (rf_RW ct 0 mw 958 f)] ++ ws_30) H := hP
          have hD : va_D A ([(rf_MO mo mw ma mf m0 m1 mu mv u0 u1 iz th1_8 mb mn mpt mbg mwr mwk mlf men), (rf_RW ct 0 mw 958 f)] ++ ws_30) := hD
          exact W.iret (v := (f (568 + 5 * p1.toInt.toNat + p2.toInt.toNat))) hx hb hr (fun t ht hW => ⟨⟨(f (568 + 5 * p1.toInt.toNat + p2.toInt.toNat)), (ws_30, th1_8), rfl, hT, by rw [ht]; exact hP, by rw [hAe]; exact hD⟩, hS.F ht⟩) hS.2.2 dX11_record_64
      · refine lv_iconst (v := (-1)) hx hb dX11_record_51 (by decide) ?_
        have hP : va_P D vwCl ([(rf_MO mo mw ma mf m0 m1 mu mv u0 u1 iz th1_8 mb mn mpt mbg mwr mwk mlf men), (rf_RW ct 0 mw 958 f)] ++ ws_13) H := ty_permP hP (ty_ordp (E := [(rf_RW ct 0 mw 958 f), (rf_MO mo mw ma mf m0 m1 mu mv u0 u1 iz th1_8 mb mn mpt mbg mwr mwk mlf men)]) (E2 := [(rf_MO mo mw ma mf m0 m1 mu mv u0 u1 iz th1_8 mb mn mpt mbg mwr mwk mlf men), (rf_RW ct 0 mw 958 f)]) (n := 2) [1, 0] rfl rfl (by decide))
        have hD : va_D A ([(rf_MO mo mw ma mf m0 m1 mu mv u0 u1 iz th1_8 mb mn mpt mbg mwr mwk mlf men), (rf_RW ct 0 mw 958 f)] ++ ws_13) := ty_permD hD (ty_ordp (E := [(rf_RW ct 0 mw 958 f), (rf_MO mo mw ma mf m0 m1 mu mv u0 u1 iz th1_8 mb mn mpt mbg mwr mwk mlf men)]) (E2 := [(rf_MO mo mw ma mf m0 m1 mu mv u0 u1 iz th1_8 mb mn mpt mbg mwr mwk mlf men), (rf_RW ct 0 mw 958 f)]) (n := 2) [1, 0] rfl rfl (by decide))
        exact W.iret (v := (-1)) hx hb hr (fun t ht hW => ⟨⟨(-1), (ws_13, th1_8), rfl, hT, by rw [ht]; exact hP, by rw [hAe]; exact hD⟩, hS.F ht⟩) hS.2.2 dX11_record_52
    · refine lv_if_eq (tgt := 32) hx hb dX11_record_27 (by decide) (fun hc => absurd hc (by decide)) (fun _ => ?_)
      refine lv_iconst (v := 0) hx hb dX11_record_30 (by decide) ?_
      have hP : va_P D vwCl ([(rf_MO mo mw ma mf m0 m1 mu mv u0 u1 iz th1_8 mb mn mpt mbg mwr mwk mlf men), (rf_RW ct 0 mw 958 f)] ++ ws_7) H := ty_permP hP (ty_ordp (E := [(rf_RW ct 0 mw 958 f), (rf_MO mo mw ma mf m0 m1 mu mv u0 u1 iz th1_8 mb mn mpt mbg mwr mwk mlf men)]) (E2 := [(rf_MO mo mw ma mf m0 m1 mu mv u0 u1 iz th1_8 mb mn mpt mbg mwr mwk mlf men), (rf_RW ct 0 mw 958 f)]) (n := 2) [1, 0] rfl rfl (by decide))
      have hD : va_D A ([(rf_MO mo mw ma mf m0 m1 mu mv u0 u1 iz th1_8 mb mn mpt mbg mwr mwk mlf men), (rf_RW ct 0 mw 958 f)] ++ ws_7) := ty_permD hD (ty_ordp (E := [(rf_RW ct 0 mw 958 f), (rf_MO mo mw ma mf m0 m1 mu mv u0 u1 iz th1_8 mb mn mpt mbg mwr mwk mlf men)]) (E2 := [(rf_MO mo mw ma mf m0 m1 mu mv u0 u1 iz th1_8 mb mn mpt mbg mwr mwk mlf men), (rf_RW ct 0 mw 958 f)]) (n := 2) [1, 0] rfl rfl (by decide))
      exact W.iret (v := 0) hx hb hr (fun t ht hW => ⟨⟨0, (ws_7, th1_8), rfl, hT, by rw [ht]; exact hP, by rw [hAe]; exact hD⟩, hS.F ht⟩) hS.2.2 dX11_record_31
  · refine lv_iconst (v := 1) hx hb dX11_record_18 (by decide) ?_
    refine lv_goto (tgt := 23) hx hb dX11_record_19 (by decide) ?_
    refine lv_iconst (v := 1) hx hb dX11_record_23 (by decide) ?_
    have hP : va_P D vwCl ([(rf_RW ct 0 mw 958 f), (rf_MO mo mw ma mf m0 m1 mu mv u0 u1 iz (0) mb mn mpt mbg mwr mwk mlf men)] ++ ws_3) H := ty_permP hP (ty_ordp (E := [(rf_MO mo mw ma mf m0 m1 mu mv u0 u1 iz (0) mb mn mpt mbg mwr mwk mlf men), (rf_RW ct 0 mw 958 f)]) (E2 := [(rf_RW ct 0 mw 958 f), (rf_MO mo mw ma mf m0 m1 mu mv u0 u1 iz (0) mb mn mpt mbg mwr mwk mlf men)]) (n := 2) [1, 0] rfl rfl (by decide))
    have hD : va_D A ([(rf_RW ct 0 mw 958 f), (rf_MO mo mw ma mf m0 m1 mu mv u0 u1 iz (0) mb mn mpt mbg mwr mwk mlf men)] ++ ws_3) := ty_permD hD (ty_ordp (E := [(rf_MO mo mw ma mf m0 m1 mu mv u0 u1 iz (0) mb mn mpt mbg mwr mwk mlf men), (rf_RW ct 0 mw 958 f)]) (E2 := [(rf_RW ct 0 mw 958 f), (rf_MO mo mw ma mf m0 m1 mu mv u0 u1 iz (0) mb mn mpt mbg mwr mwk mlf men)]) (n := 2) [1, 0] rfl rfl (by decide))
    refine ty_ki (wr := [(rf_RW ct 0 mw 958 f)]) (wc := ([(rf_MO mo mw ma mf m0 m1 mu mv u0 u1 iz (0) mb mn mpt mbg mwr mwk mlf men)] ++ ws_3)) (va_runV (As := [.int 1, .int 1]) (rest := []) ⟨hx, hb, hml, hown, hts⟩ (m_X11_throwsIf l D ct S ws_3 ph xx mo mw ma mf m0 m1 mu mv u0 u1 iz mb (0 : Int32) mn mpt mbg mwr mwk mlf men (1 : Int32) (1 : Int32) _ hT h_mu h_mv h_u0 h_u1 hph hy1 (by decide)) (cm_V 2 hts kc_X11_throwsIf ki_RX11 kl_RX11_328 kv_X11_throwsIf kx_X11_throwsIf kd_X11_throwsIf ⟨Nat.le_of_ble_eq_true rfl, Nat.le_of_ble_eq_true rfl⟩) (ty_preE (wr := [(rf_RW ct 0 mw 958 f)]) (wc := ([(rf_MO mo mw ma mf m0 m1 mu mv u0 u1 iz (0) mb mn mpt mbg mwr mwk mlf men)] ++ ws_3)) (ci := 11) (q0 := 1) hP hK hD hS hA hX rfl rfl) rfl rfl hl.1 rfl (lv_room (Nat.le_of_ble_eq_true rfl)) dX11_record_24 ⟨Nat.le_of_ble_eq_true rfl, Nat.le_of_ble_eq_true rfl⟩) hP hD hS hA (fun r_31 u H locs hw_32 hP hD hS => ?_)
    obtain ⟨ws_33, th1_34⟩ := u
    obtain ⟨hT, hp_35⟩ := hw_32
    have hp_35 : ((r_31 = 0 ∧ (1 : Int32) = 0) ∨ r_31 = 1) := hp_35
    have hP : va_P D vwCl ([(rf_RW ct 0 mw 958 f), (rf_MO mo mw ma mf m0 m1 mu mv u0 u1 iz th1_34 mb mn mpt mbg mwr mwk mlf men)] ++ ws_33) H := hP
    have hD : va_D A ([(rf_RW ct 0 mw 958 f), (rf_MO mo mw ma mf m0 m1 mu mv u0 u1 iz th1_34 mb mn mpt mbg mwr mwk mlf men)] ++ ws_33) := hD
    rcases hp_35 with ⟨rfl, hz_36⟩ | rfl
    · exact absurd hz_36 (by decide)
    · refine lv_if_eq (tgt := 32) hx hb dX11_record_27 (by decide) (fun hc => absurd hc (by decide)) (fun _ => ?_)
      refine lv_iconst (v := 0) hx hb dX11_record_30 (by decide) ?_
      have hP : va_P D vwCl ([(rf_MO mo mw ma mf m0 m1 mu mv u0 u1 iz th1_34 mb mn mpt mbg mwr mwk mlf men), (rf_RW ct 0 mw 958 f)] ++ ws_33) H := ty_permP hP (ty_ordp (E := [(rf_RW ct 0 mw 958 f), (rf_MO mo mw ma mf m0 m1 mu mv u0 u1 iz th1_34 mb mn mpt mbg mwr mwk mlf men)]) (E2 := [(rf_MO mo mw ma mf m0 m1 mu mv u0 u1 iz th1_34 mb mn mpt mbg mwr mwk mlf men), (rf_RW ct 0 mw 958 f)]) (n := 2) [1, 0] rfl rfl (by decide))
      have hD : va_D A ([(rf_MO mo mw ma mf m0 m1 mu mv u0 u1 iz th1_34 mb mn mpt mbg mwr mwk mlf men), (rf_RW ct 0 mw 958 f)] ++ ws_33) := ty_permD hD (ty_ordp (E := [(rf_RW ct 0 mw 958 f), (rf_MO mo mw ma mf m0 m1 mu mv u0 u1 iz th1_34 mb mn mpt mbg mwr mwk mlf men)]) (E2 := [(rf_MO mo mw ma mf m0 m1 mu mv u0 u1 iz th1_34 mb mn mpt mbg mwr mwk mlf men), (rf_RW ct 0 mw 958 f)]) (n := 2) [1, 0] rfl rfl (by decide))
      exact W.iret (v := 0) hx hb hr (fun t ht hW => ⟨⟨0, (ws_33, th1_34), rfl, hT, by rw [ht]; exact hP, by rw [hAe]; exact hD⟩, hS.F ht⟩) hS.2.2 dX11_record_31
theorem dX11_eventsOf_0 : decode cX11_eventsOf 0 = .ok (.aload_n 0, 1) := by decide +kernel
theorem dX11_eventsOf_1 : decode cX11_eventsOf 1 = .ok (.iload_n 1, 1) := by decide +kernel
theorem dX11_eventsOf_2 : decode cX11_eventsOf 2 = .ok (.invokevirtual 344, 3) := by decide +kernel
theorem dX11_eventsOf_5 : decode cX11_eventsOf 5 = .ok (.ifCond .ne 28, 3) := by decide +kernel
theorem dX11_eventsOf_8 : decode cX11_eventsOf 8 = .ok (.aload_n 0, 1) := by decide +kernel
theorem dX11_eventsOf_9 : decode cX11_eventsOf 9 = .ok (.iload_n 2, 1) := by decide +kernel
theorem dX11_eventsOf_10 : decode cX11_eventsOf 10 = .ok (.i2l, 1) := by decide +kernel
theorem dX11_eventsOf_11 : decode cX11_eventsOf 11 = .ok (.lconst 0, 1) := by decide +kernel
theorem dX11_eventsOf_12 : decode cX11_eventsOf 12 = .ok (.ldc2_w 360, 3) := by decide +kernel
theorem dX11_eventsOf_15 : decode cX11_eventsOf 15 = .ok (.invokestatic 70, 3) := by decide +kernel
theorem dX11_eventsOf_18 : decode cX11_eventsOf 18 = .ok (.ifCond .ne 7, 3) := by decide +kernel
theorem dX11_eventsOf_21 : decode cX11_eventsOf 21 = .ok (.iconst 1, 1) := by decide +kernel
theorem dX11_eventsOf_22 : decode cX11_eventsOf 22 = .ok (.goto 4, 3) := by decide +kernel
theorem dX11_eventsOf_25 : decode cX11_eventsOf 25 = .ok (.iconst 0, 1) := by decide +kernel
theorem dX11_eventsOf_26 : decode cX11_eventsOf 26 = .ok (.iconst 2, 1) := by decide +kernel
theorem dX11_eventsOf_27 : decode cX11_eventsOf 27 = .ok (.invokevirtual 328, 3) := by decide +kernel
theorem dX11_eventsOf_30 : decode cX11_eventsOf 30 = .ok (.ifCond .eq 5, 3) := by decide +kernel
theorem dX11_eventsOf_33 : decode cX11_eventsOf 33 = .ok (.iconst 0, 1) := by decide +kernel
theorem dX11_eventsOf_34 : decode cX11_eventsOf 34 = .ok (.ireturn, 1) := by decide +kernel
theorem dX11_eventsOf_35 : decode cX11_eventsOf 35 = .ok (.iconst 0, 1) := by decide +kernel
theorem dX11_eventsOf_36 : decode cX11_eventsOf 36 = .ok (.istore_n 3, 1) := by decide +kernel
theorem dX11_eventsOf_37 : decode cX11_eventsOf 37 = .ok (.iconst 0, 1) := by decide +kernel
theorem dX11_eventsOf_38 : decode cX11_eventsOf 38 = .ok (.istore 4, 2) := by decide +kernel
theorem dX11_eventsOf_40 : decode cX11_eventsOf 40 = .ok (.iload 4, 2) := by decide +kernel
theorem dX11_eventsOf_42 : decode cX11_eventsOf 42 = .ok (.aload_n 0, 1) := by decide +kernel
theorem dX11_eventsOf_43 : decode cX11_eventsOf 43 = .ok (.getfield 9, 3) := by decide +kernel
theorem dX11_eventsOf_46 : decode cX11_eventsOf 46 = .ok (.bipush 17, 2) := by decide +kernel
theorem dX11_eventsOf_48 : decode cX11_eventsOf 48 = .ok (.iaload, 1) := by decide +kernel
theorem dX11_eventsOf_49 : decode cX11_eventsOf 49 = .ok (.if_icmp .ge 55, 3) := by decide +kernel
theorem dX11_eventsOf_52 : decode cX11_eventsOf 52 = .ok (.iload_n 3, 1) := by decide +kernel
theorem dX11_eventsOf_53 : decode cX11_eventsOf 53 = .ok (.aload_n 0, 1) := by decide +kernel
theorem dX11_eventsOf_54 : decode cX11_eventsOf 54 = .ok (.getfield 9, 3) := by decide +kernel
theorem dX11_eventsOf_57 : decode cX11_eventsOf 57 = .ok (.sipush 718, 3) := by decide +kernel
theorem dX11_eventsOf_60 : decode cX11_eventsOf 60 = .ok (.iconst 4, 1) := by decide +kernel
theorem dX11_eventsOf_61 : decode cX11_eventsOf 61 = .ok (.iload 4, 2) := by decide +kernel
theorem dX11_eventsOf_63 : decode cX11_eventsOf 63 = .ok (.imul, 1) := by decide +kernel
theorem dX11_eventsOf_64 : decode cX11_eventsOf 64 = .ok (.iadd, 1) := by decide +kernel
theorem dX11_eventsOf_65 : decode cX11_eventsOf 65 = .ok (.iconst 1, 1) := by decide +kernel
theorem dX11_eventsOf_66 : decode cX11_eventsOf 66 = .ok (.iadd, 1) := by decide +kernel
theorem dX11_eventsOf_67 : decode cX11_eventsOf 67 = .ok (.iaload, 1) := by decide +kernel
theorem dX11_eventsOf_68 : decode cX11_eventsOf 68 = .ok (.iload_n 1, 1) := by decide +kernel
theorem dX11_eventsOf_69 : decode cX11_eventsOf 69 = .ok (.if_icmp .ne 26, 3) := by decide +kernel
theorem dX11_eventsOf_72 : decode cX11_eventsOf 72 = .ok (.aload_n 0, 1) := by decide +kernel
theorem dX11_eventsOf_73 : decode cX11_eventsOf 73 = .ok (.getfield 9, 3) := by decide +kernel
theorem dX11_eventsOf_76 : decode cX11_eventsOf 76 = .ok (.sipush 718, 3) := by decide +kernel
theorem dX11_eventsOf_79 : decode cX11_eventsOf 79 = .ok (.iconst 4, 1) := by decide +kernel
theorem dX11_eventsOf_80 : decode cX11_eventsOf 80 = .ok (.iload 4, 2) := by decide +kernel
theorem dX11_eventsOf_82 : decode cX11_eventsOf 82 = .ok (.imul, 1) := by decide +kernel
theorem dX11_eventsOf_83 : decode cX11_eventsOf 83 = .ok (.iadd, 1) := by decide +kernel
theorem dX11_eventsOf_84 : decode cX11_eventsOf 84 = .ok (.iconst 2, 1) := by decide +kernel
theorem dX11_eventsOf_85 : decode cX11_eventsOf 85 = .ok (.iadd, 1) := by decide +kernel
theorem dX11_eventsOf_86 : decode cX11_eventsOf 86 = .ok (.iaload, 1) := by decide +kernel
theorem dX11_eventsOf_87 : decode cX11_eventsOf 87 = .ok (.iload_n 2, 1) := by decide +kernel
theorem dX11_eventsOf_88 : decode cX11_eventsOf 88 = .ok (.if_icmp .ne 7, 3) := by decide +kernel
theorem dX11_eventsOf_91 : decode cX11_eventsOf 91 = .ok (.iconst 1, 1) := by decide +kernel
theorem dX11_eventsOf_92 : decode cX11_eventsOf 92 = .ok (.goto 4, 3) := by decide +kernel
theorem dX11_eventsOf_95 : decode cX11_eventsOf 95 = .ok (.iconst 0, 1) := by decide +kernel
theorem dX11_eventsOf_96 : decode cX11_eventsOf 96 = .ok (.iadd, 1) := by decide +kernel
theorem dX11_eventsOf_97 : decode cX11_eventsOf 97 = .ok (.istore_n 3, 1) := by decide +kernel
theorem dX11_eventsOf_98 : decode cX11_eventsOf 98 = .ok (.iinc 4 1, 3) := by decide +kernel
theorem dX11_eventsOf_101 : decode cX11_eventsOf 101 = .ok (.goto (-61), 3) := by decide +kernel
theorem dX11_eventsOf_104 : decode cX11_eventsOf 104 = .ok (.iload_n 3, 1) := by decide +kernel
theorem dX11_eventsOf_105 : decode cX11_eventsOf 105 = .ok (.ireturn, 1) := by decide +kernel
set_option maxRecDepth 100000 in
set_option maxHeartbeats 4000000 in
theorem m_X11_eventsOf (l : Launch) (D : va_G) (ct : Nat → ClassId) (S : ty_S) (ws : va_W) (ph : va_W → Prop) (xx : Nat → Nat → Nat → Prop) (mo : Nat) (mw : Nat) (ma : Nat) (mf : Nat) (m0 : Nat) (m1 : Nat) (mu : Nat) (mv : Nat) (u0 : Nat) (u1 : Nat) (iz : Nat) (mb : Nat) (th : Int32) (mn : Int32) (mpt : Int32) (mbg : Int32) (mwr : Int32) (mwk : Int32) (mlf : Int32) (men : Int32) (f : Nat → Int32) (G : Nat → Int32) (cx : Int) (p1 : Int32) (p2 : Int32) (sz : Nat) (hT : ty_V ct S ph ws) (h_mu : S mu = some (.inr (1, 42))) (h_mv : S mv = some (.inr (1, 42))) (h_u0 : S u0 = some (.inr (1, 42))) (h_u1 : S u1 = some (.inr (1, 42))) (hph : ty_C ph xx) (hy1 : ty_y1 xx) (hR : rf_R G cx f) : Met l yX11_eventsOf (ws_ yX11_eventsOf cX11_eventsOf 5 (some .int)) ({ frames := 2, cells := 0, slots := 0, locals := 46 } : Room) (va_Pc [.ref mo, .int p1, .int p2] (cmP D ct sz ([(rf_MO mo mw ma mf m0 m1 mu mv u0 u1 iz th mb mn mpt mbg mwr mwk mlf men), (rf_RW ct 0 mw 958 f)] ++ ws))) (va_Qi (fun (r : Int32) (u : va_W × Int32) => match u with | (u9, th1) => ty_V ct S ph u9) (cmB D ([(rf_MO mo mw ma mf m0 m1 mu mv u0 u1 iz th mb mn mpt mbg mwr mwk mlf men), (rf_RW ct 0 mw 958 f)] ++ ws) sz (fun (u : va_W × Int32) => match u with | (u9, th1) => ([(rf_MO mo mw ma mf m0 m1 mu mv u0 u1 iz th1 mb mn mpt mbg mwr mwk mlf men), (rf_RW ct 0 mw 958 f)] ++ u9))) (va_A ([(rf_MO mo mw ma mf m0 m1 mu mv u0 u1 iz th mb mn mpt mbg mwr mwk mlf men), (rf_RW ct 0 mw 958 f)] ++ ws) sz)) 0 0 (va_A ([(rf_MO mo mw ma mf m0 m1 mu mv u0 u1 iz th mb mn mpt mbg mwr mwk mlf men), (rf_RW ct 0 mw 958 f)] ++ ws) sz) := by
  refine Met.ofW (cc := cX11_eventsOf) (maxL := 5) (ret := (some .int)) (by decide) rfl ?_
  intro p e s m args below meth c s₁ B hml hv
  obtain ⟨rfl, hsz, hP, hK, hD0, hX⟩ := hv
  have hx := B.exec
  have hb := B.bytes
  have hr := B.returns
  have hts := ws_all (atoms_spec (ws := ws_ yX11_eventsOf cX11_eventsOf 5 (some .int)) B.pre)
  have hown : s.vm.findClass RX11 = some m.cls := findClass_of_methodNamed B.named
  have hlocks := B.notSynchronized
  subst hsz
  have hD := hD0.self (sz := s.heap.size)
  generalize hAe : va_A ([(rf_MO mo mw ma mf m0 m1 mu mv u0 u1 iz th mb mn mpt mbg mwr mwk mlf men), (rf_RW ct 0 mw 958 f)] ++ ws) s.heap.size = A at hD hX ⊢
  have hA : ∀ q : Nat, s.heap.size ≤ q → A q := fun q h => by rw [← hAe]; exact Or.inr h
  have hS : va_S A s.heap s.heap [] := va_S.rf
  have hl := lv_entry ([.ref mo, .int p1, .int p2]) (n := 5) (Nat.le_of_ble_eq_true rfl)
  rw [lg_entry_eq]
  generalize (lg_sl ([.ref mo, .int p1, .int p2]) ++ List.replicate (5 - (lg_sl ([.ref mo, .int p1, .int p2])).length) Slot.unset).toArray = ls at hl ⊢
  have hl : lv_has ls 5 [(0, .ref mo), (1, .int p1), (2, .int p2)] := hl
  refine lv_aload_n hx hb dX11_eventsOf_0 rfl (lv_at hl 0 rfl) ?_
  refine lv_iload_n hx hb dX11_eventsOf_1 rfl (lv_at hl 1 rfl) ?_
  refine ty_ki (wr := []) (wc := ([(rf_MO mo mw ma mf m0 m1 mu mv u0 u1 iz th mb mn mpt mbg mwr mwk mlf men), (rf_RW ct 0 mw 958 f)] ++ ws)) (va_runV (As := [.int p1]) (rest := []) ⟨hx, hb, hml, hown, hts⟩ (m_X11_noChannel l D ct S ws ph xx mo mw ma mf m0 m1 mu mv u0 u1 iz mb th mn mpt mbg mwr mwk mlf men f G cx p1 _ hT h_mu h_mv h_u0 h_u1 hph hy1 hR) (cm_V 1 hts kc_X11_noChannel ki_RX11 kl_RX11_344 kv_X11_noChannel kx_X11_noChannel kd_X11_noChannel ⟨Nat.le_of_ble_eq_true rfl, Nat.le_of_ble_eq_true rfl⟩) (ty_preE (wr := []) (wc := ([(rf_MO mo mw ma mf m0 m1 mu mv u0 u1 iz th mb mn mpt mbg mwr mwk mlf men), (rf_RW ct 0 mw 958 f)] ++ ws)) (ci := 11) (q0 := 0) hP hK hD hS hA hX rfl rfl) rfl rfl hl.1 rfl (lv_room (Nat.le_of_ble_eq_true rfl)) dX11_eventsOf_2 ⟨Nat.le_of_ble_eq_true rfl, Nat.le_of_ble_eq_true rfl⟩) hP hD hS hA (fun r_1 u H locs hw_2 hP hD hS => ?_)
  obtain ⟨ws_3, th1_4⟩ := u
  obtain ⟨hT, hp_5⟩ := hw_2
  have hp_5 : ((r_1 = 0 ∧ 0 ≤ p1.toInt ∧ p1.toInt < (G 9).toInt) ∨ r_1 = 1) := hp_5
  have hP : va_P D vwCl ([(rf_MO mo mw ma mf m0 m1 mu mv u0 u1 iz th1_4 mb mn mpt mbg mwr mwk mlf men), (rf_RW ct 0 mw 958 f)] ++ ws_3) H := hP
  have hD : va_D A ([(rf_MO mo mw ma mf m0 m1 mu mv u0 u1 iz th1_4 mb mn mpt mbg mwr mwk mlf men), (rf_RW ct 0 mw 958 f)] ++ ws_3) := hD
  rcases hp_5 with ⟨rfl, hz_6⟩ | rfl
  · refine lv_if_ne (tgt := 33) hx hb dX11_eventsOf_5 (by decide) (fun hc => absurd (by decide) hc) (fun _ => ?_)
    refine lv_aload_n hx hb dX11_eventsOf_8 rfl (lv_at hl 0 rfl) ?_
    refine lv_iload_n hx hb dX11_eventsOf_9 rfl (lv_at hl 2 rfl) ?_
    refine lv_i2l hx hb dX11_eventsOf_10 rfl ?_
    refine lv_lconst (v := 0) hx hb dX11_eventsOf_11 (by decide) ?_
    refine lv_ldc2 hx hb hown (hts _ kl_RX11_360) dX11_eventsOf_12 ?_
    refine ty_ki (wr := [(rf_MO mo mw ma mf m0 m1 mu mv u0 u1 iz th1_4 mb mn mpt mbg mwr mwk mlf men), (rf_RW ct 0 mw 958 f)]) (wc := ([] ++ ws_3)) (va_runS (As := [.long p2.toInt64, .long 0, .long 5]) (rest := [.ref mo]) ⟨hx, hb, hml, hown, hts⟩ (m_X11_in l D ct S ws_3 ph xx p2.toInt64 (0 : Int64) (5 : Int64) _ hT hph hy1) (cm_S 3 hts kc_X11_in ki_RX11 kl_RX11_70 ks_X11_in kd_X11_in ⟨Nat.le_of_ble_eq_true rfl, Nat.le_of_ble_eq_true rfl⟩) (ty_preS (wr := [(rf_MO mo mw ma mf m0 m1 mu mv u0 u1 iz th1_4 mb mn mpt mbg mwr mwk mlf men), (rf_RW ct 0 mw 958 f)]) (wc := ([] ++ ws_3)) hP hK hD hS hA hX) rfl rfl hl.1 rfl (lv_room (Nat.le_of_ble_eq_true rfl)) dX11_eventsOf_15 ⟨Nat.le_of_ble_eq_true rfl, Nat.le_of_ble_eq_true rfl⟩) hP hD hS hA (fun r_7 u H locs hw_8 hP hD hS => ?_)
    obtain ⟨ws_9, rfl⟩ : ∃ z, z = u := ⟨_, rfl⟩
    obtain ⟨hT, rfl⟩ := hw_8
    have hP : va_P D vwCl ([(rf_MO mo mw ma mf m0 m1 mu mv u0 u1 iz th1_4 mb mn mpt mbg mwr mwk mlf men), (rf_RW ct 0 mw 958 f)] ++ ws_9) H := hP
    have hD : va_D A ([(rf_MO mo mw ma mf m0 m1 mu mv u0 u1 iz th1_4 mb mn mpt mbg mwr mwk mlf men), (rf_RW ct 0 mw 958 f)] ++ ws_9) := hD
    refine lv_if_ne (tgt := 25) hx hb dX11_eventsOf_18 (by decide) (fun hc_10 => ?_) (fun hc_10 => ?_)
    · refine lv_iconst (v := 0) hx hb dX11_eventsOf_25 (by decide) ?_
      refine lv_iconst (v := 2) hx hb dX11_eventsOf_26 (by decide) ?_
      have hP : va_P D vwCl ([(rf_RW ct 0 mw 958 f), (rf_MO mo mw ma mf m0 m1 mu mv u0 u1 iz th1_4 mb mn mpt mbg mwr mwk mlf men)] ++ ws_9) H := ty_permP hP (ty_ordp (E := [(rf_MO mo mw ma mf m0 m1 mu mv u0 u1 iz th1_4 mb mn mpt mbg mwr mwk mlf men), (rf_RW ct 0 mw 958 f)]) (E2 := [(rf_RW ct 0 mw 958 f), (rf_MO mo mw ma mf m0 m1 mu mv u0 u1 iz th1_4 mb mn mpt mbg mwr mwk mlf men)]) (n := 2) [1, 0] rfl rfl (by decide))
      have hD : va_D A ([(rf_RW ct 0 mw 958 f), (rf_MO mo mw ma mf m0 m1 mu mv u0 u1 iz th1_4 mb mn mpt mbg mwr mwk mlf men)] ++ ws_9) := ty_permD hD (ty_ordp (E := [(rf_MO mo mw ma mf m0 m1 mu mv u0 u1 iz th1_4 mb mn mpt mbg mwr mwk mlf men), (rf_RW ct 0 mw 958 f)]) (E2 := [(rf_RW ct 0 mw 958 f), (rf_MO mo mw ma mf m0 m1 mu mv u0 u1 iz th1_4 mb mn mpt mbg mwr mwk mlf men)]) (n := 2) [1, 0] rfl rfl (by decide))
      refine ty_ki (wr := [(rf_RW ct 0 mw 958 f)]) (wc := ([(rf_MO mo mw ma mf m0 m1 mu mv u0 u1 iz th1_4 mb mn mpt mbg mwr mwk mlf men)] ++ ws_9)) (va_runV (As := [.int 0, .int 2]) (rest := []) ⟨hx, hb, hml, hown, hts⟩ (m_X11_throwsIf l D ct S ws_9 ph xx mo mw ma mf m0 m1 mu mv u0 u1 iz mb th1_4 mn mpt mbg mwr mwk mlf men (0 : Int32) (2 : Int32) _ hT h_mu h_mv h_u0 h_u1 hph hy1 (by decide)) (cm_V 2 hts kc_X11_throwsIf ki_RX11 kl_RX11_328 kv_X11_throwsIf kx_X11_throwsIf kd_X11_throwsIf ⟨Nat.le_of_ble_eq_true rfl, Nat.le_of_ble_eq_true rfl⟩) (ty_preE (wr := [(rf_RW ct 0 mw 958 f)]) (wc := ([(rf_MO mo mw ma mf m0 m1 mu mv u0 u1 iz th1_4 mb mn mpt mbg mwr mwk mlf men)] ++ ws_9)) (ci := 11) (q0 := 1) hP hK hD hS hA hX rfl rfl) rfl rfl hl.1 rfl (lv_room (Nat.le_of_ble_eq_true rfl)) dX11_eventsOf_27 ⟨Nat.le_of_ble_eq_true rfl, Nat.le_of_ble_eq_true rfl⟩) hP hD hS hA (fun r_11 u H locs hw_12 hP hD hS => ?_)
      obtain ⟨ws_13, th1_14⟩ := u
      obtain ⟨hT, hp_15⟩ := hw_12
      have hp_15 : ((r_11 = 0 ∧ (0 : Int32) = 0) ∨ r_11 = 1) := hp_15
      have hP : va_P D vwCl ([(rf_RW ct 0 mw 958 f), (rf_MO mo mw ma mf m0 m1 mu mv u0 u1 iz th1_14 mb mn mpt mbg mwr mwk mlf men)] ++ ws_13) H := hP
      have hD : va_D A ([(rf_RW ct 0 mw 958 f), (rf_MO mo mw ma mf m0 m1 mu mv u0 u1 iz th1_14 mb mn mpt mbg mwr mwk mlf men)] ++ ws_13) := hD
      rcases hp_15 with ⟨rfl, hz_16⟩ | rfl
      · refine lv_if_eq (tgt := 35) hx hb dX11_eventsOf_30 (by decide) (fun _ => ?_) (fun hc => absurd (by decide) hc)
        refine lv_iconst (v := 0) hx hb dX11_eventsOf_35 (by decide) ?_
        refine lv_istore_n (lv' := [(3, .int 0), (0, .ref mo), (1, .int p1), (2, .int p2)]) hx hb dX11_eventsOf_36 rfl hl (by decide) rfl (fun ls hl => ?_)
        refine lv_iconst (v := 0) hx hb dX11_eventsOf_37 (by decide) ?_
        refine lv_istore (lv' := [(4, .int 0), (3, .int 0), (0, .ref mo), (1, .int p1), (2, .int p2)]) hx hb dX11_eventsOf_38 hl (by decide) rfl (fun ls hl => ?_)
        refine ty_loop (I := fun μ H locs ls => ∃ (ws : va_W) (y_17 : Int32) (y_18 : Int32), μ = (2147483648 - y_18.toInt).toNat ∧ ty_V ct S ph ws ∧ va_P D vwCl ([(rf_RW ct 0 mw 958 f), (rf_MO mo mw ma mf m0 m1 mu mv u0 u1 iz th1_14 mb mn mpt mbg mwr mwk mlf men)] ++ ws) H ∧ va_D A ([(rf_RW ct 0 mw 958 f), (rf_MO mo mw ma mf m0 m1 mu mv u0 u1 iz th1_14 mb mn mpt mbg mwr mwk mlf men)] ++ ws) ∧ va_S A s.heap H locs ∧ lv_has ls 5 [(0, .ref mo), (1, .int p1), (2, .int p2), (3, .int y_17), (4, .int y_18)] ∧ 0 ≤ y_18.toInt) ⟨_, ws_13, (0 : Int32), (0 : Int32), rfl, hT, hP, hD, hS, (lv_sub hl [2, 3, 4, 1, 0] rfl), (by decide)⟩ (fun μ H locs ls hI ih_40 => ?_)
        obtain ⟨ws, y_17, y_18, rfl, hT, hP, hD, hS, hl, hex_40⟩ := hI
        refine lv_iload hx hb dX11_eventsOf_40 (lv_at hl 4 rfl) ?_
        refine lv_aload_n hx hb dX11_eventsOf_42 rfl (lv_at hl 0 rfl) ?_
        refine va_get (v := .ref mw) (D := D) (ci := 11) (C := RX11) (T := TX11) (N := 19) hx hb hts in_X11 hown hK hP 1 rfl rfl 0 (by decide) (hts _ kl_RX11_9) (fun _ h9 => h9) rfl dX11_eventsOf_43 ?_
        refine lv_bipush (v := 17) hx hb dX11_eventsOf_46 (by decide) ?_
        refine va_iald hx hb hK hP 0 0 rfl rfl (cm_vin (by decide)) dX11_eventsOf_48 ?_
        refine cm_cst (y := (f 17)) (by first | rfl | decide +kernel) ?_
        refine lv_icmp_ge (tgt := 104) hx hb dX11_eventsOf_49 (by decide) (fun hc_19 => ?_) (fun hc_19 => ?_)
        · refine lv_iload_n hx hb dX11_eventsOf_104 rfl (lv_at hl 3 rfl) ?_
          have hP : va_P D vwCl ([(rf_MO mo mw ma mf m0 m1 mu mv u0 u1 iz th1_14 mb mn mpt mbg mwr mwk mlf men), (rf_RW ct 0 mw 958 f)] ++ ws) H := ty_permP hP (ty_ordp (E := [(rf_RW ct 0 mw 958 f), (rf_MO mo mw ma mf m0 m1 mu mv u0 u1 iz th1_14 mb mn mpt mbg mwr mwk mlf men)]) (E2 := [(rf_MO mo mw ma mf m0 m1 mu mv u0 u1 iz th1_14 mb mn mpt mbg mwr mwk mlf men), (rf_RW ct 0 mw 958 f)]) (n := 2) [1, 0] rfl rfl (by decide))
          have hD : va_D A ([(rf_MO mo mw ma mf m0 m1 mu mv u0 u1 iz th1_14 mb mn mpt mbg mwr mwk mlf men), (rf_RW ct 0 mw 958 f)] ++ ws) := ty_permD hD (ty_ordp (E := [(rf_RW ct 0 mw 958 f), (rf_MO mo mw ma mf m0 m1 mu mv u0 u1 iz th1_14 mb mn mpt mbg mwr mwk mlf men)]) (E2 := [(rf_MO mo mw ma mf m0 m1 mu mv u0 u1 iz th1_14 mb mn mpt mbg mwr mwk mlf men), (rf_RW ct 0 mw 958 f)]) (n := 2) [1, 0] rfl rfl (by decide))
          exact W.iret (v := y_17) hx hb hr (fun t ht hW => ⟨⟨y_17, (ws, th1_14), rfl, hT, by rw [ht]; exact hP, by rw [hAe]; exact hD⟩, hS.F ht⟩) hS.2.2 dX11_eventsOf_105
        · refine lv_iload_n hx hb dX11_eventsOf_52 rfl (lv_at hl 3 rfl) ?_
          refine lv_aload_n hx hb dX11_eventsOf_53 rfl (lv_at hl 0 rfl) ?_
          refine va_get (v := .ref mw) (D := D) (ci := 11) (C := RX11) (T := TX11) (N := 19) hx hb hts in_X11 hown hK hP 1 rfl rfl 0 (by decide) (hts _ kl_RX11_9) (fun _ h9 => h9) rfl dX11_eventsOf_54 ?_
          refine lv_sipush (v := 718) hx hb dX11_eventsOf_57 (by decide) ?_
          refine lv_iconst (v := 4) hx hb dX11_eventsOf_60 (by decide) ?_
          refine lv_iload hx hb dX11_eventsOf_61 (lv_at hl 4 rfl) ?_
          refine lv_imul hx hb dX11_eventsOf_63 ?_
          refine lv_iadd hx hb dX11_eventsOf_64 ?_
          refine lv_iconst (v := 1) hx hb dX11_eventsOf_65 (by decide) ?_
          refine lv_iadd hx hb dX11_eventsOf_66 ?_
          refine va_iald hx hb hK hP 0 0 rfl rfl (rf_rix (A := 718) (B := 4) (N := 59) (by decide) (by decide) (by have := hex_40; have := hR.2.2.1.2.2; have := rf_ylt rfl hc_19; omega) (by decide) (by omega) (by omega) (by omega) (by omega) (by decide)) dX11_eventsOf_67 ?_
          refine lv_iload_n hx hb dX11_eventsOf_68 rfl (lv_at hl 1 rfl) ?_
          refine lv_icmp_ne (tgt := 95) hx hb dX11_eventsOf_69 (by decide) (fun hc_20 => ?_) (fun hc_20 => ?_)
          · refine lv_iconst (v := 0) hx hb dX11_eventsOf_95 (by decide) ?_
            refine lv_iadd hx hb dX11_eventsOf_96 ?_
            refine lv_topi (fun x_21 _ => ?_)
            refine lv_istore_n (lv' := [(3, .int x_21), (0, .ref mo), (1, .int p1), (2, .int p2), (4, .int y_18)]) hx hb dX11_eventsOf_97 rfl hl (by decide) rfl (fun ls hl => ?_)
            refine lv_iinc (v := (y_18 + Int32.ofInt 1)) (lv' := [(4, .int (y_18 + Int32.ofInt 1)), (3, .int x_21), (0, .ref mo), (1, .int p1), (2, .int p2)]) hx hb dX11_eventsOf_98 hl (k := 4) rfl rfl (by decide) rfl (fun ls hl => ?_)
            refine lv_goto (tgt := 40) hx hb dX11_eventsOf_101 (by decide) ?_
            exact ih_40 _ _ _ _ (ty_inc (cm_lt hc_19)) ⟨ws, x_21, (y_18 + Int32.ofInt 1), rfl, hT, hP, hD, hS, (lv_sub hl [2, 3, 4, 1, 0] rfl), (ty_nn hex_40 (cm_lt hc_19))⟩
          · refine lv_aload_n hx hb dX11_eventsOf_72 rfl (lv_at hl 0 rfl) ?_
            refine va_get (v := .ref mw) (D := D) (ci := 11) (C := RX11) (T := TX11) (N := 19) hx hb hts in_X11 hown hK hP 1 rfl rfl 0 (by decide) (hts _ kl_RX11_9) (fun _ h9 => h9) rfl dX11_eventsOf_73 ?_
            refine lv_sipush (v := 718) hx hb dX11_eventsOf_76 (by decide) ?_
            refine lv_iconst (v := 4) hx hb dX11_eventsOf_79 (by decide) ?_
            refine lv_iload hx hb dX11_eventsOf_80 (lv_at hl 4 rfl) ?_
            refine lv_imul hx hb dX11_eventsOf_82 ?_
            refine lv_iadd hx hb dX11_eventsOf_83 ?_
            refine lv_iconst (v := 2) hx hb dX11_eventsOf_84 (by decide) ?_
            refine lv_iadd hx hb dX11_eventsOf_85 ?_
            refine va_iald hx hb hK hP 0 0 rfl rfl (rf_rix (A := 718) (B := 4) (N := 59) (by decide) (by decide) (by have := hex_40; have := hR.2.2.1.2.2; have := rf_ylt rfl hc_19; omega) (by decide) (by omega) (by omega) (by omega) (by omega) (by decide)) dX11_eventsOf_86 ?_
            refine lv_iload_n hx hb dX11_eventsOf_87 rfl (lv_at hl 2 rfl) ?_
            refine lv_icmp_ne (tgt := 95) hx hb dX11_eventsOf_88 (by decide) (fun hc_22 => ?_) (fun hc_22 => ?_)
            · refine lv_iconst (v := 0) hx hb dX11_eventsOf_95 (by decide) ?_
              refine lv_iadd hx hb dX11_eventsOf_96 ?_
              refine lv_topi (fun x_23 _ => ?_)
              refine lv_istore_n (lv' := [(3, .int x_23), (0, .ref mo), (1, .int p1), (2, .int p2), (4, .int y_18)]) hx hb dX11_eventsOf_97 rfl hl (by decide) rfl (fun ls hl => ?_)
              refine lv_iinc (v := (y_18 + Int32.ofInt 1)) (lv' := [(4, .int (y_18 + Int32.ofInt 1)), (3, .int x_23), (0, .ref mo), (1, .int p1), (2, .int p2)]) hx hb dX11_eventsOf_98 hl (k := 4) rfl rfl (by decide) rfl (fun ls hl => ?_)
              refine lv_goto (tgt := 40) hx hb dX11_eventsOf_101 (by decide) ?_
              exact ih_40 _ _ _ _ (ty_inc (cm_lt hc_19)) ⟨ws, x_23, (y_18 + Int32.ofInt 1), rfl, hT, hP, hD, hS, (lv_sub hl [2, 3, 4, 1, 0] rfl), (ty_nn hex_40 (cm_lt hc_19))⟩
            · refine lv_iconst (v := 1) hx hb dX11_eventsOf_91 (by decide) ?_
              refine lv_goto (tgt := 96) hx hb dX11_eventsOf_92 (by decide) ?_
              refine lv_iadd hx hb dX11_eventsOf_96 ?_
              refine lv_topi (fun x_24 _ => ?_)
              refine lv_istore_n (lv' := [(3, .int x_24), (0, .ref mo), (1, .int p1), (2, .int p2), (4, .int y_18)]) hx hb dX11_eventsOf_97 rfl hl (by decide) rfl (fun ls hl => ?_)
              refine lv_iinc (v := (y_18 + Int32.ofInt 1)) (lv' := [(4, .int (y_18 + Int32.ofInt 1)), (3, .int x_24), (0, .ref mo), (1, .int p1), (2, .int p2)]) hx hb dX11_eventsOf_98 hl (k := 4) rfl rfl (by decide) rfl (fun ls hl => ?_)
              refine lv_goto (tgt := 40) hx hb dX11_eventsOf_101 (by decide) ?_
              exact ih_40 _ _ _ _ (ty_inc (cm_lt hc_19)) ⟨ws, x_24, (y_18 + Int32.ofInt 1), rfl, hT, hP, hD, hS, (lv_sub hl [2, 3, 4, 1, 0] rfl), (ty_nn hex_40 (cm_lt hc_19))⟩
      · refine lv_if_eq (tgt := 35) hx hb dX11_eventsOf_30 (by decide) (fun hc => absurd hc (by decide)) (fun _ => ?_)
        refine lv_iconst (v := 0) hx hb dX11_eventsOf_33 (by decide) ?_
        have hP : va_P D vwCl ([(rf_MO mo mw ma mf m0 m1 mu mv u0 u1 iz th1_14 mb mn mpt mbg mwr mwk mlf men), (rf_RW ct 0 mw 958 f)] ++ ws_13) H := ty_permP hP (ty_ordp (E := [(rf_RW ct 0 mw 958 f), (rf_MO mo mw ma mf m0 m1 mu mv u0 u1 iz th1_14 mb mn mpt mbg mwr mwk mlf men)]) (E2 := [(rf_MO mo mw ma mf m0 m1 mu mv u0 u1 iz th1_14 mb mn mpt mbg mwr mwk mlf men), (rf_RW ct 0 mw 958 f)]) (n := 2) [1, 0] rfl rfl (by decide))
        have hD : va_D A ([(rf_MO mo mw ma mf m0 m1 mu mv u0 u1 iz th1_14 mb mn mpt mbg mwr mwk mlf men), (rf_RW ct 0 mw 958 f)] ++ ws_13) := ty_permD hD (ty_ordp (E := [(rf_RW ct 0 mw 958 f), (rf_MO mo mw ma mf m0 m1 mu mv u0 u1 iz th1_14 mb mn mpt mbg mwr mwk mlf men)]) (E2 := [(rf_MO mo mw ma mf m0 m1 mu mv u0 u1 iz th1_14 mb mn mpt mbg mwr mwk mlf men), (rf_RW ct 0 mw 958 f)]) (n := 2) [1, 0] rfl rfl (by decide))
        exact W.iret (v := 0) hx hb hr (fun t ht hW => ⟨⟨0, (ws_13, th1_14), rfl, hT, by rw [ht]; exact hP, by rw [hAe]; exact hD⟩, hS.F ht⟩) hS.2.2 dX11_eventsOf_34
    · refine lv_iconst (v := 1) hx hb dX11_eventsOf_21 (by decide) ?_
      refine lv_goto (tgt := 26) hx hb dX11_eventsOf_22 (by decide) ?_
      refine lv_iconst (v := 2) hx hb dX11_eventsOf_26 (by decide) ?_
      have hP : va_P D vwCl ([(rf_RW ct 0 mw 958 f), (rf_MO mo mw ma mf m0 m1 mu mv u0 u1 iz th1_4 mb mn mpt mbg mwr mwk mlf men)] ++ ws_9) H := ty_permP hP (ty_ordp (E := [(rf_MO mo mw ma mf m0 m1 mu mv u0 u1 iz th1_4 mb mn mpt mbg mwr mwk mlf men), (rf_RW ct 0 mw 958 f)]) (E2 := [(rf_RW ct 0 mw 958 f), (rf_MO mo mw ma mf m0 m1 mu mv u0 u1 iz th1_4 mb mn mpt mbg mwr mwk mlf men)]) (n := 2) [1, 0] rfl rfl (by decide))
      have hD : va_D A ([(rf_RW ct 0 mw 958 f), (rf_MO mo mw ma mf m0 m1 mu mv u0 u1 iz th1_4 mb mn mpt mbg mwr mwk mlf men)] ++ ws_9) := ty_permD hD (ty_ordp (E := [(rf_MO mo mw ma mf m0 m1 mu mv u0 u1 iz th1_4 mb mn mpt mbg mwr mwk mlf men), (rf_RW ct 0 mw 958 f)]) (E2 := [(rf_RW ct 0 mw 958 f), (rf_MO mo mw ma mf m0 m1 mu mv u0 u1 iz th1_4 mb mn mpt mbg mwr mwk mlf men)]) (n := 2) [1, 0] rfl rfl (by decide))
      refine ty_ki (wr := [(rf_RW ct 0 mw 958 f)]) (wc := ([(rf_MO mo mw ma mf m0 m1 mu mv u0 u1 iz th1_4 mb mn mpt mbg mwr mwk mlf men)] ++ ws_9)) (va_runV (As := [.int 1, .int 2]) (rest := []) ⟨hx, hb, hml, hown, hts⟩ (m_X11_throwsIf l D ct S ws_9 ph xx mo mw ma mf m0 m1 mu mv u0 u1 iz mb th1_4 mn mpt mbg mwr mwk mlf men (1 : Int32) (2 : Int32) _ hT h_mu h_mv h_u0 h_u1 hph hy1 (by decide)) (cm_V 2 hts kc_X11_throwsIf ki_RX11 kl_RX11_328 kv_X11_throwsIf kx_X11_throwsIf kd_X11_throwsIf ⟨Nat.le_of_ble_eq_true rfl, Nat.le_of_ble_eq_true rfl⟩) (ty_preE (wr := [(rf_RW ct 0 mw 958 f)]) (wc := ([(rf_MO mo mw ma mf m0 m1 mu mv u0 u1 iz th1_4 mb mn mpt mbg mwr mwk mlf men)] ++ ws_9)) (ci := 11) (q0 := 1) hP hK hD hS hA hX rfl rfl) rfl rfl hl.1 rfl (lv_room (Nat.le_of_ble_eq_true rfl)) dX11_eventsOf_27 ⟨Nat.le_of_ble_eq_true rfl, Nat.le_of_ble_eq_true rfl⟩) hP hD hS hA (fun r_25 u H locs hw_26 hP hD hS => ?_)
      obtain ⟨ws_27, th1_28⟩ := u
      obtain ⟨hT, hp_29⟩ := hw_26
      have hp_29 : ((r_25 = 0 ∧ (1 : Int32) = 0) ∨ r_25 = 1) := hp_29
      have hP : va_P D vwCl ([(rf_RW ct 0 mw 958 f), (rf_MO mo mw ma mf m0 m1 mu mv u0 u1 iz th1_28 mb mn mpt mbg mwr mwk mlf men)] ++ ws_27) H := hP
      have hD : va_D A ([(rf_RW ct 0 mw 958 f), (rf_MO mo mw ma mf m0 m1 mu mv u0 u1 iz th1_28 mb mn mpt mbg mwr mwk mlf men)] ++ ws_27) := hD
      rcases hp_29 with ⟨rfl, hz_30⟩ | rfl
      · exact absurd hz_30 (by decide)
      · refine lv_if_eq (tgt := 35) hx hb dX11_eventsOf_30 (by decide) (fun hc => absurd hc (by decide)) (fun _ => ?_)
        refine lv_iconst (v := 0) hx hb dX11_eventsOf_33 (by decide) ?_
        have hP : va_P D vwCl ([(rf_MO mo mw ma mf m0 m1 mu mv u0 u1 iz th1_28 mb mn mpt mbg mwr mwk mlf men), (rf_RW ct 0 mw 958 f)] ++ ws_27) H := ty_permP hP (ty_ordp (E := [(rf_RW ct 0 mw 958 f), (rf_MO mo mw ma mf m0 m1 mu mv u0 u1 iz th1_28 mb mn mpt mbg mwr mwk mlf men)]) (E2 := [(rf_MO mo mw ma mf m0 m1 mu mv u0 u1 iz th1_28 mb mn mpt mbg mwr mwk mlf men), (rf_RW ct 0 mw 958 f)]) (n := 2) [1, 0] rfl rfl (by decide))
        have hD : va_D A ([(rf_MO mo mw ma mf m0 m1 mu mv u0 u1 iz th1_28 mb mn mpt mbg mwr mwk mlf men), (rf_RW ct 0 mw 958 f)] ++ ws_27) := ty_permD hD (ty_ordp (E := [(rf_RW ct 0 mw 958 f), (rf_MO mo mw ma mf m0 m1 mu mv u0 u1 iz th1_28 mb mn mpt mbg mwr mwk mlf men)]) (E2 := [(rf_MO mo mw ma mf m0 m1 mu mv u0 u1 iz th1_28 mb mn mpt mbg mwr mwk mlf men), (rf_RW ct 0 mw 958 f)]) (n := 2) [1, 0] rfl rfl (by decide))
        exact W.iret (v := 0) hx hb hr (fun t ht hW => ⟨⟨0, (ws_27, th1_28), rfl, hT, by rw [ht]; exact hP, by rw [hAe]; exact hD⟩, hS.F ht⟩) hS.2.2 dX11_eventsOf_34
  · refine lv_if_ne (tgt := 33) hx hb dX11_eventsOf_5 (by decide) (fun _ => ?_) (fun hc => absurd hc (by decide))
    refine lv_iconst (v := 0) hx hb dX11_eventsOf_33 (by decide) ?_
    exact W.iret (v := 0) hx hb hr (fun t ht hW => ⟨⟨0, (ws_3, th1_4), rfl, hT, by rw [ht]; exact hP, by rw [hAe]; exact hD⟩, hS.F ht⟩) hS.2.2 dX11_eventsOf_34
theorem dX11_inState_0 : decode cX11_inState 0 = .ok (.aload_n 0, 1) := by decide +kernel
theorem dX11_inState_1 : decode cX11_inState 1 = .ok (.iconst 0, 1) := by decide +kernel
theorem dX11_inState_2 : decode cX11_inState 2 = .ok (.putfield 49, 3) := by decide +kernel
theorem dX11_inState_5 : decode cX11_inState 5 = .ok (.aload_n 0, 1) := by decide +kernel
theorem dX11_inState_6 : decode cX11_inState 6 = .ok (.iload_n 1, 1) := by decide +kernel
theorem dX11_inState_7 : decode cX11_inState 7 = .ok (.i2l, 1) := by decide +kernel
theorem dX11_inState_8 : decode cX11_inState 8 = .ok (.lconst 0, 1) := by decide +kernel
theorem dX11_inState_9 : decode cX11_inState 9 = .ok (.ldc2_w 364, 3) := by decide +kernel
theorem dX11_inState_12 : decode cX11_inState 12 = .ok (.invokestatic 70, 3) := by decide +kernel
theorem dX11_inState_15 : decode cX11_inState 15 = .ok (.ifCond .ne 7, 3) := by decide +kernel
theorem dX11_inState_18 : decode cX11_inState 18 = .ok (.iconst 1, 1) := by decide +kernel
theorem dX11_inState_19 : decode cX11_inState 19 = .ok (.goto 4, 3) := by decide +kernel
theorem dX11_inState_22 : decode cX11_inState 22 = .ok (.iconst 0, 1) := by decide +kernel
theorem dX11_inState_23 : decode cX11_inState 23 = .ok (.iconst 1, 1) := by decide +kernel
theorem dX11_inState_24 : decode cX11_inState 24 = .ok (.invokevirtual 328, 3) := by decide +kernel
theorem dX11_inState_27 : decode cX11_inState 27 = .ok (.ifCond .eq 5, 3) := by decide +kernel
theorem dX11_inState_30 : decode cX11_inState 30 = .ok (.iconst 0, 1) := by decide +kernel
theorem dX11_inState_31 : decode cX11_inState 31 = .ok (.ireturn, 1) := by decide +kernel
theorem dX11_inState_32 : decode cX11_inState 32 = .ok (.iconst 0, 1) := by decide +kernel
theorem dX11_inState_33 : decode cX11_inState 33 = .ok (.istore_n 2, 1) := by decide +kernel
theorem dX11_inState_34 : decode cX11_inState 34 = .ok (.iconst 0, 1) := by decide +kernel
theorem dX11_inState_35 : decode cX11_inState 35 = .ok (.istore_n 3, 1) := by decide +kernel
theorem dX11_inState_36 : decode cX11_inState 36 = .ok (.iload_n 3, 1) := by decide +kernel
theorem dX11_inState_37 : decode cX11_inState 37 = .ok (.aload_n 0, 1) := by decide +kernel
theorem dX11_inState_38 : decode cX11_inState 38 = .ok (.getfield 9, 3) := by decide +kernel
theorem dX11_inState_41 : decode cX11_inState 41 = .ok (.bipush 9, 2) := by decide +kernel
theorem dX11_inState_43 : decode cX11_inState 43 = .ok (.iaload, 1) := by decide +kernel
theorem dX11_inState_44 : decode cX11_inState 44 = .ok (.if_icmp .ge 28, 3) := by decide +kernel
theorem dX11_inState_47 : decode cX11_inState 47 = .ok (.iload_n 2, 1) := by decide +kernel
theorem dX11_inState_48 : decode cX11_inState 48 = .ok (.aload_n 0, 1) := by decide +kernel
theorem dX11_inState_49 : decode cX11_inState 49 = .ok (.iload_n 3, 1) := by decide +kernel
theorem dX11_inState_50 : decode cX11_inState 50 = .ok (.iload_n 1, 1) := by decide +kernel
theorem dX11_inState_51 : decode cX11_inState 51 = .ok (.invokevirtual 350, 3) := by decide +kernel
theorem dX11_inState_54 : decode cX11_inState 54 = .ok (.ifCond .eq 9, 3) := by decide +kernel
theorem dX11_inState_57 : decode cX11_inState 57 = .ok (.iconst 1, 1) := by decide +kernel
theorem dX11_inState_58 : decode cX11_inState 58 = .ok (.iload_n 3, 1) := by decide +kernel
theorem dX11_inState_59 : decode cX11_inState 59 = .ok (.ishl, 1) := by decide +kernel
theorem dX11_inState_60 : decode cX11_inState 60 = .ok (.goto 4, 3) := by decide +kernel
theorem dX11_inState_63 : decode cX11_inState 63 = .ok (.iconst 0, 1) := by decide +kernel
theorem dX11_inState_64 : decode cX11_inState 64 = .ok (.ior, 1) := by decide +kernel
theorem dX11_inState_65 : decode cX11_inState 65 = .ok (.istore_n 2, 1) := by decide +kernel
theorem dX11_inState_66 : decode cX11_inState 66 = .ok (.iinc 3 1, 3) := by decide +kernel
theorem dX11_inState_69 : decode cX11_inState 69 = .ok (.goto (-33), 3) := by decide +kernel
theorem dX11_inState_72 : decode cX11_inState 72 = .ok (.iload_n 2, 1) := by decide +kernel
theorem dX11_inState_73 : decode cX11_inState 73 = .ok (.ireturn, 1) := by decide +kernel
set_option maxRecDepth 100000 in
set_option maxHeartbeats 4000000 in
theorem m_X11_inState (l : Launch) (D : va_G) (ct : Nat → ClassId) (S : ty_S) (ws : va_W) (ph : va_W → Prop) (xx : Nat → Nat → Nat → Prop) (mo : Nat) (mw : Nat) (ma : Nat) (mf : Nat) (m0 : Nat) (m1 : Nat) (mu : Nat) (mv : Nat) (u0 : Nat) (u1 : Nat) (iz : Nat) (mb : Nat) (th : Int32) (mn : Int32) (mpt : Int32) (mbg : Int32) (mwr : Int32) (mwk : Int32) (mlf : Int32) (men : Int32) (f : Nat → Int32) (G : Nat → Int32) (cx : Int) (p1 : Int32) (sz : Nat) (hT : ty_V ct S ph ws) (h_mu : S mu = some (.inr (1, 42))) (h_mv : S mv = some (.inr (1, 42))) (h_u0 : S u0 = some (.inr (1, 42))) (h_u1 : S u1 = some (.inr (1, 42))) (hph : ty_C ph xx) (hy1 : ty_y1 xx) (hR : rf_R G cx f) : Met l yX11_inState (ws_ yX11_inState cX11_inState 4 (some .int)) ({ frames := 2, cells := 0, slots := 0, locals := 44 } : Room) (va_Pc [.ref mo, .int p1] (cmP D ct sz ([(rf_MO mo mw ma mf m0 m1 mu mv u0 u1 iz th mb mn mpt mbg mwr mwk mlf men), (rf_RW ct 0 mw 958 f)] ++ ws))) (va_Qi (fun (r : Int32) (u : va_W × Int32) => match u with | (u9, th1) => ty_V ct S ph u9) (cmB D ([(rf_MO mo mw ma mf m0 m1 mu mv u0 u1 iz th mb mn mpt mbg mwr mwk mlf men), (rf_RW ct 0 mw 958 f)] ++ ws) sz (fun (u : va_W × Int32) => match u with | (u9, th1) => ([(rf_MO mo mw ma mf m0 m1 mu mv u0 u1 iz th1 mb mn mpt mbg mwr mwk mlf men), (rf_RW ct 0 mw 958 f)] ++ u9))) (va_A ([(rf_MO mo mw ma mf m0 m1 mu mv u0 u1 iz th mb mn mpt mbg mwr mwk mlf men), (rf_RW ct 0 mw 958 f)] ++ ws) sz)) 0 0 (va_A ([(rf_MO mo mw ma mf m0 m1 mu mv u0 u1 iz th mb mn mpt mbg mwr mwk mlf men), (rf_RW ct 0 mw 958 f)] ++ ws) sz) := by
  refine Met.ofW (cc := cX11_inState) (maxL := 4) (ret := (some .int)) (by decide) rfl ?_
  intro p e s m args below meth c s₁ B hml hv
  obtain ⟨rfl, hsz, hP, hK, hD0, hX⟩ := hv
  have hx := B.exec
  have hb := B.bytes
  have hr := B.returns
  have hts := ws_all (atoms_spec (ws := ws_ yX11_inState cX11_inState 4 (some .int)) B.pre)
  have hown : s.vm.findClass RX11 = some m.cls := findClass_of_methodNamed B.named
  have hlocks := B.notSynchronized
  subst hsz
  have hD := hD0.self (sz := s.heap.size)
  generalize hAe : va_A ([(rf_MO mo mw ma mf m0 m1 mu mv u0 u1 iz th mb mn mpt mbg mwr mwk mlf men), (rf_RW ct 0 mw 958 f)] ++ ws) s.heap.size = A at hD hX ⊢
  have hA : ∀ q : Nat, s.heap.size ≤ q → A q := fun q h => by rw [← hAe]; exact Or.inr h
  have hS : va_S A s.heap s.heap [] := va_S.rf
  have hl := lv_entry ([.ref mo, .int p1]) (n := 4) (Nat.le_of_ble_eq_true rfl)
  rw [lg_entry_eq]
  generalize (lg_sl ([.ref mo, .int p1]) ++ List.replicate (4 - (lg_sl ([.ref mo, .int p1])).length) Slot.unset).toArray = ls at hl ⊢
  have hl : lv_has ls 4 [(0, .ref mo), (1, .int p1)] := hl
  refine lv_aload_n hx hb dX11_inState_0 rfl (lv_at hl 0 rfl) ?_
  refine lv_iconst (v := 0) hx hb dX11_inState_1 (by decide) ?_
  refine va_put (v := .int 0) (ty := .int) (D := D) (ci := 11) (C := RX11) (T := TX11) (N := 19) hx hb hts in_X11 tyX11 tyX11_ok nmX11 hown hK hP hD hS 0 rfl rfl 10 (by decide) (hts _ kl_RX11_49) (fun _ h9 => h9) rfl (by decide +kernel) rfl rfl (Nat.le_of_ble_eq_true rfl) dX11_inState_2 (fun H locs hP hD hS => ?_)
  have hP : va_P D vwCl ([(rf_MO mo mw ma mf m0 m1 mu mv u0 u1 iz (0) mb mn mpt mbg mwr mwk mlf men), (rf_RW ct 0 mw 958 f)] ++ ws) H := hP
  have hD : va_D A ([(rf_MO mo mw ma mf m0 m1 mu mv u0 u1 iz (0) mb mn mpt mbg mwr mwk mlf men), (rf_RW ct 0 mw 958 f)] ++ ws) := hD
  refine lv_aload_n hx hb dX11_inState_5 rfl (lv_at hl 0 rfl) ?_
  refine lv_iload_n hx hb dX11_inState_6 rfl (lv_at hl 1 rfl) ?_
  refine lv_i2l hx hb dX11_inState_7 rfl ?_
  refine lv_lconst (v := 0) hx hb dX11_inState_8 (by decide) ?_
  refine lv_ldc2 hx hb hown (hts _ kl_RX11_364) dX11_inState_9 ?_
  refine ty_ki (wr := [(rf_MO mo mw ma mf m0 m1 mu mv u0 u1 iz (0) mb mn mpt mbg mwr mwk mlf men), (rf_RW ct 0 mw 958 f)]) (wc := ([] ++ ws)) (va_runS (As := [.long p1.toInt64, .long 0, .long 4]) (rest := [.ref mo]) ⟨hx, hb, hml, hown, hts⟩ (m_X11_in l D ct S ws ph xx p1.toInt64 (0 : Int64) (4 : Int64) _ hT hph hy1) (cm_S 3 hts kc_X11_in ki_RX11 kl_RX11_70 ks_X11_in kd_X11_in ⟨Nat.le_of_ble_eq_true rfl, Nat.le_of_ble_eq_true rfl⟩) (ty_preS (wr := [(rf_MO mo mw ma mf m0 m1 mu mv u0 u1 iz (0) mb mn mpt mbg mwr mwk mlf men), (rf_RW ct 0 mw 958 f)]) (wc := ([] ++ ws)) hP hK hD hS hA hX) rfl rfl hl.1 rfl (lv_room (Nat.le_of_ble_eq_true rfl)) dX11_inState_12 ⟨Nat.le_of_ble_eq_true rfl, Nat.le_of_ble_eq_true rfl⟩) hP hD hS hA (fun r_1 u H locs hw_2 hP hD hS => ?_)
  obtain ⟨ws_3, rfl⟩ : ∃ z, z = u := ⟨_, rfl⟩
  obtain ⟨hT, rfl⟩ := hw_2
  have hP : va_P D vwCl ([(rf_MO mo mw ma mf m0 m1 mu mv u0 u1 iz (0) mb mn mpt mbg mwr mwk mlf men), (rf_RW ct 0 mw 958 f)] ++ ws_3) H := hP
  have hD : va_D A ([(rf_MO mo mw ma mf m0 m1 mu mv u0 u1 iz (0) mb mn mpt mbg mwr mwk mlf men), (rf_RW ct 0 mw 958 f)] ++ ws_3) := hD
  refine lv_if_ne (tgt := 22) hx hb dX11_inState_15 (by decide) (fun hc_4 => ?_) (fun hc_4 => ?_)
  · refine lv_iconst (v := 0) hx hb dX11_inState_22 (by decide) ?_
    refine lv_iconst (v := 1) hx hb dX11_inState_23 (by decide) ?_
    have hP : va_P D vwCl ([(rf_RW ct 0 mw 958 f), (rf_MO mo mw ma mf m0 m1 mu mv u0 u1 iz (0) mb mn mpt mbg mwr mwk mlf men)] ++ ws_3) H := ty_permP hP (ty_ordp (E := [(rf_MO mo mw ma mf m0 m1 mu mv u0 u1 iz (0) mb mn mpt mbg mwr mwk mlf men), (rf_RW ct 0 mw 958 f)]) (E2 := [(rf_RW ct 0 mw 958 f), (rf_MO mo mw ma mf m0 m1 mu mv u0 u1 iz (0) mb mn mpt mbg mwr mwk mlf men)]) (n := 2) [1, 0] rfl rfl (by decide))
    have hD : va_D A ([(rf_RW ct 0 mw 958 f), (rf_MO mo mw ma mf m0 m1 mu mv u0 u1 iz (0) mb mn mpt mbg mwr mwk mlf men)] ++ ws_3) := ty_permD hD (ty_ordp (E := [(rf_MO mo mw ma mf m0 m1 mu mv u0 u1 iz (0) mb mn mpt mbg mwr mwk mlf men), (rf_RW ct 0 mw 958 f)]) (E2 := [(rf_RW ct 0 mw 958 f), (rf_MO mo mw ma mf m0 m1 mu mv u0 u1 iz (0) mb mn mpt mbg mwr mwk mlf men)]) (n := 2) [1, 0] rfl rfl (by decide))
    refine ty_ki (wr := [(rf_RW ct 0 mw 958 f)]) (wc := ([(rf_MO mo mw ma mf m0 m1 mu mv u0 u1 iz (0) mb mn mpt mbg mwr mwk mlf men)] ++ ws_3)) (va_runV (As := [.int 0, .int 1]) (rest := []) ⟨hx, hb, hml, hown, hts⟩ (m_X11_throwsIf l D ct S ws_3 ph xx mo mw ma mf m0 m1 mu mv u0 u1 iz mb (0 : Int32) mn mpt mbg mwr mwk mlf men (0 : Int32) (1 : Int32) _ hT h_mu h_mv h_u0 h_u1 hph hy1 (by decide)) (cm_V 2 hts kc_X11_throwsIf ki_RX11 kl_RX11_328 kv_X11_throwsIf kx_X11_throwsIf kd_X11_throwsIf ⟨Nat.le_of_ble_eq_true rfl, Nat.le_of_ble_eq_true rfl⟩) (ty_preE (wr := [(rf_RW ct 0 mw 958 f)]) (wc := ([(rf_MO mo mw ma mf m0 m1 mu mv u0 u1 iz (0) mb mn mpt mbg mwr mwk mlf men)] ++ ws_3)) (ci := 11) (q0 := 1) hP hK hD hS hA hX rfl rfl) rfl rfl hl.1 rfl (lv_room (Nat.le_of_ble_eq_true rfl)) dX11_inState_24 ⟨Nat.le_of_ble_eq_true rfl, Nat.le_of_ble_eq_true rfl⟩) hP hD hS hA (fun r_5 u H locs hw_6 hP hD hS => ?_)
    obtain ⟨ws_7, th1_8⟩ := u
    obtain ⟨hT, hp_9⟩ := hw_6
    have hp_9 : ((r_5 = 0 ∧ (0 : Int32) = 0) ∨ r_5 = 1) := hp_9
    have hP : va_P D vwCl ([(rf_RW ct 0 mw 958 f), (rf_MO mo mw ma mf m0 m1 mu mv u0 u1 iz th1_8 mb mn mpt mbg mwr mwk mlf men)] ++ ws_7) H := hP
    have hD : va_D A ([(rf_RW ct 0 mw 958 f), (rf_MO mo mw ma mf m0 m1 mu mv u0 u1 iz th1_8 mb mn mpt mbg mwr mwk mlf men)] ++ ws_7) := hD
    rcases hp_9 with ⟨rfl, hz_10⟩ | rfl
    · refine lv_if_eq (tgt := 32) hx hb dX11_inState_27 (by decide) (fun _ => ?_) (fun hc => absurd (by decide) hc)
      refine lv_iconst (v := 0) hx hb dX11_inState_32 (by decide) ?_
      refine lv_istore_n (lv' := [(2, .int 0), (0, .ref mo), (1, .int p1)]) hx hb dX11_inState_33 rfl hl (by decide) rfl (fun ls hl => ?_)
      refine lv_iconst (v := 0) hx hb dX11_inState_34 (by decide) ?_
      refine lv_istore_n (lv' := [(3, .int 0), (2, .int 0), (0, .ref mo), (1, .int p1)]) hx hb dX11_inState_35 rfl hl (by decide) rfl (fun ls hl => ?_)
      refine ty_loop (I := fun μ H locs ls => ∃ (ws : va_W) (y_11 : Int32) (y_12 : Int32), μ = (2147483648 - y_12.toInt).toNat ∧ ty_V ct S ph ws ∧ va_P D vwCl ([(rf_RW ct 0 mw 958 f), (rf_MO mo mw ma mf m0 m1 mu mv u0 u1 iz th1_8 mb mn mpt mbg mwr mwk mlf men)] ++ ws) H ∧ va_D A ([(rf_RW ct 0 mw 958 f), (rf_MO mo mw ma mf m0 m1 mu mv u0 u1 iz th1_8 mb mn mpt mbg mwr mwk mlf men)] ++ ws) ∧ va_S A s.heap H locs ∧ lv_has ls 4 [(0, .ref mo), (1, .int p1), (2, .int y_11), (3, .int y_12)] ∧ 0 ≤ y_12.toInt) ⟨_, ws_7, (0 : Int32), (0 : Int32), rfl, hT, hP, hD, hS, (lv_sub hl [2, 3, 1, 0] rfl), (by decide)⟩ (fun μ H locs ls hI ih_36 => ?_)
      obtain ⟨ws, y_11, y_12, rfl, hT, hP, hD, hS, hl, hex_36⟩ := hI
      refine lv_iload_n hx hb dX11_inState_36 rfl (lv_at hl 3 rfl) ?_
      refine lv_aload_n hx hb dX11_inState_37 rfl (lv_at hl 0 rfl) ?_
      refine va_get (v := .ref mw) (D := D) (ci := 11) (C := RX11) (T := TX11) (N := 19) hx hb hts in_X11 hown hK hP 1 rfl rfl 0 (by decide) (hts _ kl_RX11_9) (fun _ h9 => h9) rfl dX11_inState_38 ?_
      refine lv_bipush (v := 9) hx hb dX11_inState_41 (by decide) ?_
      refine va_iald hx hb hK hP 0 0 rfl rfl (cm_vin (by decide)) dX11_inState_43 ?_
      refine cm_cst (y := (f 9)) (by first | rfl | decide +kernel) ?_
      refine lv_icmp_ge (tgt := 72) hx hb dX11_inState_44 (by decide) (fun hc_13 => ?_) (fun hc_13 => ?_)
      · refine lv_iload_n hx hb dX11_inState_72 rfl (lv_at hl 2 rfl) ?_
        have hP : va_P D vwCl ([(rf_MO mo mw ma mf m0 m1 mu mv u0 u1 iz th1_8 mb mn mpt mbg mwr mwk mlf men), (rf_RW ct 0 mw 958 f)] ++ ws) H := ty_permP hP (ty_ordp (E := [(rf_RW ct 0 mw 958 f), (rf_MO mo mw ma mf m0 m1 mu mv u0 u1 iz th1_8 mb mn mpt mbg mwr mwk mlf men)]) (E2 := [(rf_MO mo mw ma mf m0 m1 mu mv u0 u1 iz th1_8 mb mn mpt mbg mwr mwk mlf men), (rf_RW ct 0 mw 958 f)]) (n := 2) [1, 0] rfl rfl (by decide))
        have hD : va_D A ([(rf_MO mo mw ma mf m0 m1 mu mv u0 u1 iz th1_8 mb mn mpt mbg mwr mwk mlf men), (rf_RW ct 0 mw 958 f)] ++ ws) := ty_permD hD (ty_ordp (E := [(rf_RW ct 0 mw 958 f), (rf_MO mo mw ma mf m0 m1 mu mv u0 u1 iz th1_8 mb mn mpt mbg mwr mwk mlf men)]) (E2 := [(rf_MO mo mw ma mf m0 m1 mu mv u0 u1 iz th1_8 mb mn mpt mbg mwr mwk mlf men), (rf_RW ct 0 mw 958 f)]) (n := 2) [1, 0] rfl rfl (by decide))
        exact W.iret (v := y_11) hx hb hr (fun t ht hW => ⟨⟨y_11, (ws, th1_8), rfl, hT, by rw [ht]; exact hP, by rw [hAe]; exact hD⟩, hS.F ht⟩) hS.2.2 dX11_inState_73
      · refine lv_iload_n hx hb dX11_inState_47 rfl (lv_at hl 2 rfl) ?_
        refine lv_aload_n hx hb dX11_inState_48 rfl (lv_at hl 0 rfl) ?_
        refine lv_iload_n hx hb dX11_inState_49 rfl (lv_at hl 3 rfl) ?_
        refine lv_iload_n hx hb dX11_inState_50 rfl (lv_at hl 1 rfl) ?_
        have hP : va_P D vwCl ([(rf_MO mo mw ma mf m0 m1 mu mv u0 u1 iz th1_8 mb mn mpt mbg mwr mwk mlf men), (rf_RW ct 0 mw 958 f)] ++ ws) H := ty_permP hP (ty_ordp (E := [(rf_RW ct 0 mw 958 f), (rf_MO mo mw ma mf m0 m1 mu mv u0 u1 iz th1_8 mb mn mpt mbg mwr mwk mlf men)]) (E2 := [(rf_MO mo mw ma mf m0 m1 mu mv u0 u1 iz th1_8 mb mn mpt mbg mwr mwk mlf men), (rf_RW ct 0 mw 958 f)]) (n := 2) [1, 0] rfl rfl (by decide))
        have hD : va_D A ([(rf_MO mo mw ma mf m0 m1 mu mv u0 u1 iz th1_8 mb mn mpt mbg mwr mwk mlf men), (rf_RW ct 0 mw 958 f)] ++ ws) := ty_permD hD (ty_ordp (E := [(rf_RW ct 0 mw 958 f), (rf_MO mo mw ma mf m0 m1 mu mv u0 u1 iz th1_8 mb mn mpt mbg mwr mwk mlf men)]) (E2 := [(rf_MO mo mw ma mf m0 m1 mu mv u0 u1 iz th1_8 mb mn mpt mbg mwr mwk mlf men), (rf_RW ct 0 mw 958 f)]) (n := 2) [1, 0] rfl rfl (by decide))
        refine ty_ki (wr := []) (wc := ([(rf_MO mo mw ma mf m0 m1 mu mv u0 u1 iz th1_8 mb mn mpt mbg mwr mwk mlf men), (rf_RW ct 0 mw 958 f)] ++ ws)) (va_runV (As := [.int y_12, .int p1]) (rest := [.int y_11]) ⟨hx, hb, hml, hown, hts⟩ (m_X11_isIn l D ct S ws ph xx mo mw ma mf m0 m1 mu mv u0 u1 iz mb th1_8 mn mpt mbg mwr mwk mlf men f G cx y_12 p1 _ hT h_mu h_mv h_u0 h_u1 hph hy1 hR ⟨hex_36, by rw [← hR.2.1.2.2.2.2.1]; exact rf_ylt rfl hc_13⟩) (cm_V 2 hts kc_X11_isIn ki_RX11 kl_RX11_350 kv_X11_isIn kx_X11_isIn kd_X11_isIn ⟨Nat.le_of_ble_eq_true rfl, Nat.le_of_ble_eq_true rfl⟩) (ty_preE (wr := []) (wc := ([(rf_MO mo mw ma mf m0 m1 mu mv u0 u1 iz th1_8 mb mn mpt mbg mwr mwk mlf men), (rf_RW ct 0 mw 958 f)] ++ ws)) (ci := 11) (q0 := 0) hP hK hD hS hA hX rfl rfl) rfl rfl hl.1 rfl (lv_room (Nat.le_of_ble_eq_true rfl)) dX11_inState_51 ⟨Nat.le_of_ble_eq_true rfl, Nat.le_of_ble_eq_true rfl⟩) hP hD hS hA (fun r_14 u H locs hw_15 hP hD hS => ?_)
        obtain ⟨ws_16, rfl⟩ : ∃ z, z = u := ⟨_, rfl⟩
        obtain ⟨hT, hp_17⟩ := hw_15
        have hp_17 : ((r_14 = 0 ∧ ¬ rf_of f y_12 0 = p1) ∨ (r_14 = 1 ∧ rf_of f y_12 0 = p1)) := hp_17
        have hP : va_P D vwCl ([(rf_MO mo mw ma mf m0 m1 mu mv u0 u1 iz th1_8 mb mn mpt mbg mwr mwk mlf men), (rf_RW ct 0 mw 958 f)] ++ ws_16) H := hP
        have hD : va_D A ([(rf_MO mo mw ma mf m0 m1 mu mv u0 u1 iz th1_8 mb mn mpt mbg mwr mwk mlf men), (rf_RW ct 0 mw 958 f)] ++ ws_16) := hD
        rcases hp_17 with ⟨rfl, hz_18⟩ | ⟨rfl, hz_19⟩
        · refine lv_if_eq (tgt := 63) hx hb dX11_inState_54 (by decide) (fun _ => ?_) (fun hc => absurd (by decide) hc)
          refine lv_iconst (v := 0) hx hb dX11_inState_63 (by decide) ?_
          refine lv_ior hx hb dX11_inState_64 ?_
          refine lv_topi (fun x_20 _ => ?_)
          refine lv_topi (fun x_21 _ => ?_)
          refine lv_istore_n (lv' := [(2, .int x_21), (0, .ref mo), (1, .int p1), (3, .int y_12)]) hx hb dX11_inState_65 rfl hl (by decide) rfl (fun ls hl => ?_)
          refine lv_iinc (v := (y_12 + Int32.ofInt 1)) (lv' := [(3, .int (y_12 + Int32.ofInt 1)), (2, .int x_21), (0, .ref mo), (1, .int p1)]) hx hb dX11_inState_66 hl (k := 3) rfl rfl (by decide) rfl (fun ls hl => ?_)
          refine lv_goto (tgt := 36) hx hb dX11_inState_69 (by decide) ?_
          have hP : va_P D vwCl ([(rf_RW ct 0 mw 958 f), (rf_MO mo mw ma mf m0 m1 mu mv u0 u1 iz th1_8 mb mn mpt mbg mwr mwk mlf men)] ++ ws_16) H := ty_permP hP (ty_ordp (E := [(rf_MO mo mw ma mf m0 m1 mu mv u0 u1 iz th1_8 mb mn mpt mbg mwr mwk mlf men), (rf_RW ct 0 mw 958 f)]) (E2 := [(rf_RW ct 0 mw 958 f), (rf_MO mo mw ma mf m0 m1 mu mv u0 u1 iz th1_8 mb mn mpt mbg mwr mwk mlf men)]) (n := 2) [1, 0] rfl rfl (by decide))
          have hD : va_D A ([(rf_RW ct 0 mw 958 f), (rf_MO mo mw ma mf m0 m1 mu mv u0 u1 iz th1_8 mb mn mpt mbg mwr mwk mlf men)] ++ ws_16) := ty_permD hD (ty_ordp (E := [(rf_MO mo mw ma mf m0 m1 mu mv u0 u1 iz th1_8 mb mn mpt mbg mwr mwk mlf men), (rf_RW ct 0 mw 958 f)]) (E2 := [(rf_RW ct 0 mw 958 f), (rf_MO mo mw ma mf m0 m1 mu mv u0 u1 iz th1_8 mb mn mpt mbg mwr mwk mlf men)]) (n := 2) [1, 0] rfl rfl (by decide))
          exact ih_36 _ _ _ _ (ty_inc (cm_lt hc_13)) ⟨ws_16, x_21, (y_12 + Int32.ofInt 1), rfl, hT, hP, hD, hS, (lv_sub hl [2, 3, 1, 0] rfl), (ty_nn hex_36 (cm_lt hc_13))⟩
        · refine lv_if_eq (tgt := 63) hx hb dX11_inState_54 (by decide) (fun hc => absurd hc (by decide)) (fun _ => ?_)
          refine lv_iconst (v := 1) hx hb dX11_inState_57 (by decide) ?_
          refine lv_iload_n hx hb dX11_inState_58 rfl (lv_at hl 3 rfl) ?_
          refine lv_ishl hx hb dX11_inState_59 ?_
          refine lv_topi (fun x_22 _ => ?_)
          refine lv_goto (tgt := 64) hx hb dX11_inState_60 (by decide) ?_
          refine lv_ior hx hb dX11_inState_64 ?_
          refine lv_topi (fun x_23 _ => ?_)
          refine lv_topi (fun x_24 _ => ?_)
          refine lv_istore_n (lv' := [(2, .int x_24), (0, .ref mo), (1, .int p1), (3, .int y_12)]) hx hb dX11_inState_65 rfl hl (by decide) rfl (fun ls hl => ?_)
          refine lv_iinc (v := (y_12 + Int32.ofInt 1)) (lv' := [(3, .int (y_12 + Int32.ofInt 1)), (2, .int x_24), (0, .ref mo), (1, .int p1)]) hx hb dX11_inState_66 hl (k := 3) rfl rfl (by decide) rfl (fun ls hl => ?_)
          refine lv_goto (tgt := 36) hx hb dX11_inState_69 (by decide) ?_
          have hP : va_P D vwCl ([(rf_RW ct 0 mw 958 f), (rf_MO mo mw ma mf m0 m1 mu mv u0 u1 iz th1_8 mb mn mpt mbg mwr mwk mlf men)] ++ ws_16) H := ty_permP hP (ty_ordp (E := [(rf_MO mo mw ma mf m0 m1 mu mv u0 u1 iz th1_8 mb mn mpt mbg mwr mwk mlf men), (rf_RW ct 0 mw 958 f)]) (E2 := [(rf_RW ct 0 mw 958 f), (rf_MO mo mw ma mf m0 m1 mu mv u0 u1 iz th1_8 mb mn mpt mbg mwr mwk mlf men)]) (n := 2) [1, 0] rfl rfl (by decide))
          have hD : va_D A ([(rf_RW ct 0 mw 958 f), (rf_MO mo mw ma mf m0 m1 mu mv u0 u1 iz th1_8 mb mn mpt mbg mwr mwk mlf men)] ++ ws_16) := ty_permD hD (ty_ordp (E := [(rf_MO mo mw ma mf m0 m1 mu mv u0 u1 iz th1_8 mb mn mpt mbg mwr mwk mlf men), (rf_RW ct 0 mw 958 f)]) (E2 := [(rf_RW ct 0 mw 958 f), (rf_MO mo mw ma mf m0 m1 mu mv u0 u1 iz th1_8 mb mn mpt mbg mwr mwk mlf men)]) (n := 2) [1, 0] rfl rfl (by decide))
          exact ih_36 _ _ _ _ (ty_inc (cm_lt hc_13)) ⟨ws_16, x_24, (y_12 + Int32.ofInt 1), rfl, hT, hP, hD, hS, (lv_sub hl [2, 3, 1, 0] rfl), (ty_nn hex_36 (cm_lt hc_13))⟩
    · refine lv_if_eq (tgt := 32) hx hb dX11_inState_27 (by decide) (fun hc => absurd hc (by decide)) (fun _ => ?_)
      refine lv_iconst (v := 0) hx hb dX11_inState_30 (by decide) ?_
      have hP : va_P D vwCl ([(rf_MO mo mw ma mf m0 m1 mu mv u0 u1 iz th1_8 mb mn mpt mbg mwr mwk mlf men), (rf_RW ct 0 mw 958 f)] ++ ws_7) H := ty_permP hP (ty_ordp (E := [(rf_RW ct 0 mw 958 f), (rf_MO mo mw ma mf m0 m1 mu mv u0 u1 iz th1_8 mb mn mpt mbg mwr mwk mlf men)]) (E2 := [(rf_MO mo mw ma mf m0 m1 mu mv u0 u1 iz th1_8 mb mn mpt mbg mwr mwk mlf men), (rf_RW ct 0 mw 958 f)]) (n := 2) [1, 0] rfl rfl (by decide))
      have hD : va_D A ([(rf_MO mo mw ma mf m0 m1 mu mv u0 u1 iz th1_8 mb mn mpt mbg mwr mwk mlf men), (rf_RW ct 0 mw 958 f)] ++ ws_7) := ty_permD hD (ty_ordp (E := [(rf_RW ct 0 mw 958 f), (rf_MO mo mw ma mf m0 m1 mu mv u0 u1 iz th1_8 mb mn mpt mbg mwr mwk mlf men)]) (E2 := [(rf_MO mo mw ma mf m0 m1 mu mv u0 u1 iz th1_8 mb mn mpt mbg mwr mwk mlf men), (rf_RW ct 0 mw 958 f)]) (n := 2) [1, 0] rfl rfl (by decide))
      exact W.iret (v := 0) hx hb hr (fun t ht hW => ⟨⟨0, (ws_7, th1_8), rfl, hT, by rw [ht]; exact hP, by rw [hAe]; exact hD⟩, hS.F ht⟩) hS.2.2 dX11_inState_31
  · refine lv_iconst (v := 1) hx hb dX11_inState_18 (by decide) ?_
    refine lv_goto (tgt := 23) hx hb dX11_inState_19 (by decide) ?_
    refine lv_iconst (v := 1) hx hb dX11_inState_23 (by decide) ?_
    have hP : va_P D vwCl ([(rf_RW ct 0 mw 958 f), (rf_MO mo mw ma mf m0 m1 mu mv u0 u1 iz (0) mb mn mpt mbg mwr mwk mlf men)] ++ ws_3) H := ty_permP hP (ty_ordp (E := [(rf_MO mo mw ma mf m0 m1 mu mv u0 u1 iz (0) mb mn mpt mbg mwr mwk mlf men), (rf_RW ct 0 mw 958 f)]) (E2 := [(rf_RW ct 0 mw 958 f), (rf_MO mo mw ma mf m0 m1 mu mv u0 u1 iz (0) mb mn mpt mbg mwr mwk mlf men)]) (n := 2) [1, 0] rfl rfl (by decide))
    have hD : va_D A ([(rf_RW ct 0 mw 958 f), (rf_MO mo mw ma mf m0 m1 mu mv u0 u1 iz (0) mb mn mpt mbg mwr mwk mlf men)] ++ ws_3) := ty_permD hD (ty_ordp (E := [(rf_MO mo mw ma mf m0 m1 mu mv u0 u1 iz (0) mb mn mpt mbg mwr mwk mlf men), (rf_RW ct 0 mw 958 f)]) (E2 := [(rf_RW ct 0 mw 958 f), (rf_MO mo mw ma mf m0 m1 mu mv u0 u1 iz (0) mb mn mpt mbg mwr mwk mlf men)]) (n := 2) [1, 0] rfl rfl (by decide))
    refine ty_ki (wr := [(rf_RW ct 0 mw 958 f)]) (wc := ([(rf_MO mo mw ma mf m0 m1 mu mv u0 u1 iz (0) mb mn mpt mbg mwr mwk mlf men)] ++ ws_3)) (va_runV (As := [.int 1, .int 1]) (rest := []) ⟨hx, hb, hml, hown, hts⟩ (m_X11_throwsIf l D ct S ws_3 ph xx mo mw ma mf m0 m1 mu mv u0 u1 iz mb (0 : Int32) mn mpt mbg mwr mwk mlf men (1 : Int32) (1 : Int32) _ hT h_mu h_mv h_u0 h_u1 hph hy1 (by decide)) (cm_V 2 hts kc_X11_throwsIf ki_RX11 kl_RX11_328 kv_X11_throwsIf kx_X11_throwsIf kd_X11_throwsIf ⟨Nat.le_of_ble_eq_true rfl, Nat.le_of_ble_eq_true rfl⟩) (ty_preE (wr := [(rf_RW ct 0 mw 958 f)]) (wc := ([(rf_MO mo mw ma mf m0 m1 mu mv u0 u1 iz (0) mb mn mpt mbg mwr mwk mlf men)] ++ ws_3)) (ci := 11) (q0 := 1) hP hK hD hS hA hX rfl rfl) rfl rfl hl.1 rfl (lv_room (Nat.le_of_ble_eq_true rfl)) dX11_inState_24 ⟨Nat.le_of_ble_eq_true rfl, Nat.le_of_ble_eq_true rfl⟩) hP hD hS hA (fun r_25 u H locs hw_26 hP hD hS => ?_)
    obtain ⟨ws_27, th1_28⟩ := u
    obtain ⟨hT, hp_29⟩ := hw_26
    have hp_29 : ((r_25 = 0 ∧ (1 : Int32) = 0) ∨ r_25 = 1) := hp_29
    have hP : va_P D vwCl ([(rf_RW ct 0 mw 958 f), (rf_MO mo mw ma mf m0 m1 mu mv u0 u1 iz th1_28 mb mn mpt mbg mwr mwk mlf men)] ++ ws_27) H := hP
    have hD : va_D A ([(rf_RW ct 0 mw 958 f), (rf_MO mo mw ma mf m0 m1 mu mv u0 u1 iz th1_28 mb mn mpt mbg mwr mwk mlf men)] ++ ws_27) := hD
    rcases hp_29 with ⟨rfl, hz_30⟩ | rfl
    · exact absurd hz_30 (by decide)
    · refine lv_if_eq (tgt := 32) hx hb dX11_inState_27 (by decide) (fun hc => absurd hc (by decide)) (fun _ => ?_)
      refine lv_iconst (v := 0) hx hb dX11_inState_30 (by decide) ?_
      have hP : va_P D vwCl ([(rf_MO mo mw ma mf m0 m1 mu mv u0 u1 iz th1_28 mb mn mpt mbg mwr mwk mlf men), (rf_RW ct 0 mw 958 f)] ++ ws_27) H := ty_permP hP (ty_ordp (E := [(rf_RW ct 0 mw 958 f), (rf_MO mo mw ma mf m0 m1 mu mv u0 u1 iz th1_28 mb mn mpt mbg mwr mwk mlf men)]) (E2 := [(rf_MO mo mw ma mf m0 m1 mu mv u0 u1 iz th1_28 mb mn mpt mbg mwr mwk mlf men), (rf_RW ct 0 mw 958 f)]) (n := 2) [1, 0] rfl rfl (by decide))
      have hD : va_D A ([(rf_MO mo mw ma mf m0 m1 mu mv u0 u1 iz th1_28 mb mn mpt mbg mwr mwk mlf men), (rf_RW ct 0 mw 958 f)] ++ ws_27) := ty_permD hD (ty_ordp (E := [(rf_RW ct 0 mw 958 f), (rf_MO mo mw ma mf m0 m1 mu mv u0 u1 iz th1_28 mb mn mpt mbg mwr mwk mlf men)]) (E2 := [(rf_MO mo mw ma mf m0 m1 mu mv u0 u1 iz th1_28 mb mn mpt mbg mwr mwk mlf men), (rf_RW ct 0 mw 958 f)]) (n := 2) [1, 0] rfl rfl (by decide))
      exact W.iret (v := 0) hx hb hr (fun t ht hW => ⟨⟨0, (ws_27, th1_28), rfl, hT, by rw [ht]; exact hP, by rw [hAe]; exact hD⟩, hS.F ht⟩) hS.2.2 dX11_inState_31
theorem dX11_weakest_0 : decode cX11_weakest 0 = .ok (.aload_n 0, 1) := by decide +kernel
theorem dX11_weakest_1 : decode cX11_weakest 1 = .ok (.iconst 0, 1) := by decide +kernel
theorem dX11_weakest_2 : decode cX11_weakest 2 = .ok (.putfield 49, 3) := by decide +kernel
theorem dX11_weakest_5 : decode cX11_weakest 5 = .ok (.iconst (-1), 1) := by decide +kernel
theorem dX11_weakest_6 : decode cX11_weakest 6 = .ok (.istore_n 1, 1) := by decide +kernel
theorem dX11_weakest_7 : decode cX11_weakest 7 = .ok (.iconst 0, 1) := by decide +kernel
theorem dX11_weakest_8 : decode cX11_weakest 8 = .ok (.istore_n 2, 1) := by decide +kernel
theorem dX11_weakest_9 : decode cX11_weakest 9 = .ok (.iload_n 2, 1) := by decide +kernel
theorem dX11_weakest_10 : decode cX11_weakest 10 = .ok (.aload_n 0, 1) := by decide +kernel
theorem dX11_weakest_11 : decode cX11_weakest 11 = .ok (.getfield 9, 3) := by decide +kernel
theorem dX11_weakest_14 : decode cX11_weakest 14 = .ok (.bipush 9, 2) := by decide +kernel
theorem dX11_weakest_16 : decode cX11_weakest 16 = .ok (.iaload, 1) := by decide +kernel
theorem dX11_weakest_17 : decode cX11_weakest 17 = .ok (.if_icmp .ge 29, 3) := by decide +kernel
theorem dX11_weakest_20 : decode cX11_weakest 20 = .ok (.iload_n 1, 1) := by decide +kernel
theorem dX11_weakest_21 : decode cX11_weakest 21 = .ok (.iconst (-1), 1) := by decide +kernel
theorem dX11_weakest_22 : decode cX11_weakest 22 = .ok (.if_icmp .eq 16, 3) := by decide +kernel
theorem dX11_weakest_25 : decode cX11_weakest 25 = .ok (.aload_n 0, 1) := by decide +kernel
theorem dX11_weakest_26 : decode cX11_weakest 26 = .ok (.iload_n 2, 1) := by decide +kernel
theorem dX11_weakest_27 : decode cX11_weakest 27 = .ok (.invokevirtual 366, 3) := by decide +kernel
theorem dX11_weakest_30 : decode cX11_weakest 30 = .ok (.aload_n 0, 1) := by decide +kernel
theorem dX11_weakest_31 : decode cX11_weakest 31 = .ok (.iload_n 1, 1) := by decide +kernel
theorem dX11_weakest_32 : decode cX11_weakest 32 = .ok (.invokevirtual 366, 3) := by decide +kernel
theorem dX11_weakest_35 : decode cX11_weakest 35 = .ok (.if_icmp .ge 5, 3) := by decide +kernel
theorem dX11_weakest_38 : decode cX11_weakest 38 = .ok (.iload_n 2, 1) := by decide +kernel
theorem dX11_weakest_39 : decode cX11_weakest 39 = .ok (.istore_n 1, 1) := by decide +kernel
theorem dX11_weakest_40 : decode cX11_weakest 40 = .ok (.iinc 2 1, 3) := by decide +kernel
theorem dX11_weakest_43 : decode cX11_weakest 43 = .ok (.goto (-34), 3) := by decide +kernel
theorem dX11_weakest_46 : decode cX11_weakest 46 = .ok (.iload_n 1, 1) := by decide +kernel
theorem dX11_weakest_47 : decode cX11_weakest 47 = .ok (.ireturn, 1) := by decide +kernel
set_option maxRecDepth 100000 in
set_option maxHeartbeats 4000000 in
theorem m_X11_weakest (l : Launch) (D : va_G) (ct : Nat → ClassId) (S : ty_S) (ws : va_W) (ph : va_W → Prop) (xx : Nat → Nat → Nat → Prop) (mo : Nat) (mw : Nat) (ma : Nat) (mf : Nat) (m0 : Nat) (m1 : Nat) (mu : Nat) (mv : Nat) (u0 : Nat) (u1 : Nat) (iz : Nat) (mb : Nat) (th : Int32) (mn : Int32) (mpt : Int32) (mbg : Int32) (mwr : Int32) (mwk : Int32) (mlf : Int32) (men : Int32) (f : Nat → Int32) (G : Nat → Int32) (cx : Int) (sz : Nat) (hT : ty_V ct S ph ws) (h_mu : S mu = some (.inr (1, 42))) (h_mv : S mv = some (.inr (1, 42))) (h_u0 : S u0 = some (.inr (1, 42))) (h_u1 : S u1 = some (.inr (1, 42))) (hph : ty_C ph xx) (hy1 : ty_y1 xx) (hR : rf_R G cx f) : Met l yX11_weakest (ws_ yX11_weakest cX11_weakest 3 (some .int)) ({ frames := 2, cells := 0, slots := 0, locals := 43 } : Room) (va_Pc [.ref mo] (cmP D ct sz ([(rf_MO mo mw ma mf m0 m1 mu mv u0 u1 iz th mb mn mpt mbg mwr mwk mlf men), (rf_RW ct 0 mw 958 f)] ++ ws))) (va_Qi (fun (r : Int32) (u : va_W × Int32) => match u with | (u9, th1) => ty_V ct S ph u9) (cmB D ([(rf_MO mo mw ma mf m0 m1 mu mv u0 u1 iz th mb mn mpt mbg mwr mwk mlf men), (rf_RW ct 0 mw 958 f)] ++ ws) sz (fun (u : va_W × Int32) => match u with | (u9, th1) => ([(rf_MO mo mw ma mf m0 m1 mu mv u0 u1 iz th1 mb mn mpt mbg mwr mwk mlf men), (rf_RW ct 0 mw 958 f)] ++ u9))) (va_A ([(rf_MO mo mw ma mf m0 m1 mu mv u0 u1 iz th mb mn mpt mbg mwr mwk mlf men), (rf_RW ct 0 mw 958 f)] ++ ws) sz)) 0 0 (va_A ([(rf_MO mo mw ma mf m0 m1 mu mv u0 u1 iz th mb mn mpt mbg mwr mwk mlf men), (rf_RW ct 0 mw 958 f)] ++ ws) sz) := by
  refine Met.ofW (cc := cX11_weakest) (maxL := 3) (ret := (some .int)) (by decide) rfl ?_
  intro p e s m args below meth c s₁ B hml hv
  obtain ⟨rfl, hsz, hP, hK, hD0, hX⟩ := hv
  have hx := B.exec
  have hb := B.bytes
  have hr := B.returns
  have hts := ws_all (atoms_spec (ws := ws_ yX11_weakest cX11_weakest 3 (some .int)) B.pre)
  have hown : s.vm.findClass RX11 = some m.cls := findClass_of_methodNamed B.named
  have hlocks := B.notSynchronized
  subst hsz
  have hD := hD0.self (sz := s.heap.size)
  generalize hAe : va_A ([(rf_MO mo mw ma mf m0 m1 mu mv u0 u1 iz th mb mn mpt mbg mwr mwk mlf men), (rf_RW ct 0 mw 958 f)] ++ ws) s.heap.size = A at hD hX ⊢
  have hA : ∀ q : Nat, s.heap.size ≤ q → A q := fun q h => by rw [← hAe]; exact Or.inr h
  have hS : va_S A s.heap s.heap [] := va_S.rf
  have hl := lv_entry ([.ref mo]) (n := 3) (Nat.le_of_ble_eq_true rfl)
  rw [lg_entry_eq]
  generalize (lg_sl ([.ref mo]) ++ List.replicate (3 - (lg_sl ([.ref mo])).length) Slot.unset).toArray = ls at hl ⊢
  have hl : lv_has ls 3 [(0, .ref mo)] := hl
  refine lv_aload_n hx hb dX11_weakest_0 rfl (lv_at hl 0 rfl) ?_
  refine lv_iconst (v := 0) hx hb dX11_weakest_1 (by decide) ?_
  refine va_put (v := .int 0) (ty := .int) (D := D) (ci := 11) (C := RX11) (T := TX11) (N := 19) hx hb hts in_X11 tyX11 tyX11_ok nmX11 hown hK hP hD hS 0 rfl rfl 10 (by decide) (hts _ kl_RX11_49) (fun _ h9 => h9) rfl (by decide +kernel) rfl rfl (Nat.le_of_ble_eq_true rfl) dX11_weakest_2 (fun H locs hP hD hS => ?_)
  have hP : va_P D vwCl ([(rf_MO mo mw ma mf m0 m1 mu mv u0 u1 iz (0) mb mn mpt mbg mwr mwk mlf men), (rf_RW ct 0 mw 958 f)] ++ ws) H := hP
  have hD : va_D A ([(rf_MO mo mw ma mf m0 m1 mu mv u0 u1 iz (0) mb mn mpt mbg mwr mwk mlf men), (rf_RW ct 0 mw 958 f)] ++ ws) := hD
  refine lv_iconst (v := (-1)) hx hb dX11_weakest_5 (by decide) ?_
  refine lv_istore_n (lv' := [(1, .int (-1)), (0, .ref mo)]) hx hb dX11_weakest_6 rfl hl (by decide) rfl (fun ls hl => ?_)
  refine lv_iconst (v := 0) hx hb dX11_weakest_7 (by decide) ?_
  refine lv_istore_n (lv' := [(2, .int 0), (1, .int (-1)), (0, .ref mo)]) hx hb dX11_weakest_8 rfl hl (by decide) rfl (fun ls hl => ?_)
  refine ty_loop (I := fun μ H locs ls => ∃ (ws : va_W) (y_1 : Int32) (y_2 : Int32), μ = (2147483648 - y_2.toInt).toNat ∧ ty_V ct S ph ws ∧ va_P D vwCl ([(rf_MO mo mw ma mf m0 m1 mu mv u0 u1 iz (0) mb mn mpt mbg mwr mwk mlf men), (rf_RW ct 0 mw 958 f)] ++ ws) H ∧ va_D A ([(rf_MO mo mw ma mf m0 m1 mu mv u0 u1 iz (0) mb mn mpt mbg mwr mwk mlf men), (rf_RW ct 0 mw 958 f)] ++ ws) ∧ va_S A s.heap H locs ∧ lv_has ls 3 [(0, .ref mo), (1, .int y_1), (2, .int y_2)] ∧ 0 ≤ y_2.toInt ∧ (y_1 = -1 ∨ (0 ≤ y_1.toInt ∧ y_1.toInt < (G 9).toInt))) ⟨_, ws, ((-1) : Int32), (0 : Int32), rfl, hT, hP, hD, hS, (lv_sub hl [2, 1, 0] rfl), ⟨by decide, Or.inl rfl⟩⟩ (fun μ H locs ls hI ih_9 => ?_)
  obtain ⟨ws, y_1, y_2, rfl, hT, hP, hD, hS, hl, hex_9⟩ := hI
  refine lv_iload_n hx hb dX11_weakest_9 rfl (lv_at hl 2 rfl) ?_
  refine lv_aload_n hx hb dX11_weakest_10 rfl (lv_at hl 0 rfl) ?_
  refine va_get (v := .ref mw) (D := D) (ci := 11) (C := RX11) (T := TX11) (N := 19) hx hb hts in_X11 hown hK hP 0 rfl rfl 0 (by decide) (hts _ kl_RX11_9) (fun _ h9 => h9) rfl dX11_weakest_11 ?_
  refine lv_bipush (v := 9) hx hb dX11_weakest_14 (by decide) ?_
  refine va_iald hx hb hK hP 1 0 rfl rfl (cm_vin (by decide)) dX11_weakest_16 ?_
  refine cm_cst (y := (f 9)) (by first | rfl | decide +kernel) ?_
  refine lv_icmp_ge (tgt := 46) hx hb dX11_weakest_17 (by decide) (fun hc_3 => ?_) (fun hc_3 => ?_)
  · refine lv_iload_n hx hb dX11_weakest_46 rfl (lv_at hl 1 rfl) ?_
    exact W.iret (v := y_1) hx hb hr (fun t ht hW => ⟨⟨y_1, (ws, (0 : Int32)), rfl, hT, by rw [ht]; exact hP, by rw [hAe]; exact hD⟩, hS.F ht⟩) hS.2.2 dX11_weakest_47
  · refine lv_iload_n hx hb dX11_weakest_20 rfl (lv_at hl 1 rfl) ?_
    refine lv_iconst (v := (-1)) hx hb dX11_weakest_21 (by decide) ?_
    refine lv_icmp_eq (tgt := 38) hx hb dX11_weakest_22 (by decide) (fun hc_4 => ?_) (fun hc_4 => ?_)
    · refine lv_iload_n hx hb dX11_weakest_38 rfl (lv_at hl 2 rfl) ?_
      refine lv_istore_n (lv' := [(1, .int y_2), (0, .ref mo), (2, .int y_2)]) hx hb dX11_weakest_39 rfl hl (by decide) rfl (fun ls hl => ?_)
      refine lv_iinc (v := (y_2 + Int32.ofInt 1)) (lv' := [(2, .int (y_2 + Int32.ofInt 1)), (1, .int y_2), (0, .ref mo)]) hx hb dX11_weakest_40 hl (k := 2) rfl rfl (by decide) rfl (fun ls hl => ?_)
      refine lv_goto (tgt := 9) hx hb dX11_weakest_43 (by decide) ?_
      exact ih_9 _ _ _ _ (ty_inc (cm_lt hc_3)) ⟨ws, y_2, (y_2 + Int32.ofInt 1), rfl, hT, hP, hD, hS, (lv_sub hl [2, 1, 0] rfl), (ty_nn hex_9.1 (cm_lt hc_3)), Or.inr ⟨hex_9.1, by rw [← hR.2.1.2.2.2.2.1]; exact rf_ylt rfl hc_3⟩⟩
    · refine lv_aload_n hx hb dX11_weakest_25 rfl (lv_at hl 0 rfl) ?_
      refine lv_iload_n hx hb dX11_weakest_26 rfl (lv_at hl 2 rfl) ?_
      refine ty_ki (wr := []) (wc := ([(rf_MO mo mw ma mf m0 m1 mu mv u0 u1 iz (0) mb mn mpt mbg mwr mwk mlf men), (rf_RW ct 0 mw 958 f)] ++ ws)) (va_runV (As := [.int y_2]) (rest := []) ⟨hx, hb, hml, hown, hts⟩ (m_X11_share l D ct S ws ph xx mo mw ma mf m0 m1 mu mv u0 u1 iz mb (0 : Int32) mn mpt mbg mwr mwk mlf men f G cx y_2 _ hT h_mu h_mv h_u0 h_u1 hph hy1 hR ⟨hex_9.1, by rw [← hR.2.1.2.2.2.2.1]; exact rf_ylt rfl hc_3⟩) (cm_V 1 hts kc_X11_share ki_RX11 kl_RX11_366 kv_X11_share kx_X11_share kd_X11_share ⟨Nat.le_of_ble_eq_true rfl, Nat.le_of_ble_eq_true rfl⟩) (ty_preE (wr := []) (wc := ([(rf_MO mo mw ma mf m0 m1 mu mv u0 u1 iz (0) mb mn mpt mbg mwr mwk mlf men), (rf_RW ct 0 mw 958 f)] ++ ws)) (ci := 11) (q0 := 0) hP hK hD hS hA hX rfl rfl) rfl rfl hl.1 rfl (lv_room (Nat.le_of_ble_eq_true rfl)) dX11_weakest_27 ⟨Nat.le_of_ble_eq_true rfl, Nat.le_of_ble_eq_true rfl⟩) hP hD hS hA (fun r_5 u H locs hw_6 hP hD hS => ?_)
      obtain ⟨ws_7, rfl⟩ : ∃ z, z = u := ⟨_, rfl⟩
      have hT := hw_6
      have hP : va_P D vwCl ([(rf_MO mo mw ma mf m0 m1 mu mv u0 u1 iz (0) mb mn mpt mbg mwr mwk mlf men), (rf_RW ct 0 mw 958 f)] ++ ws_7) H := hP
      have hD : va_D A ([(rf_MO mo mw ma mf m0 m1 mu mv u0 u1 iz (0) mb mn mpt mbg mwr mwk mlf men), (rf_RW ct 0 mw 958 f)] ++ ws_7) := hD
      refine lv_aload_n hx hb dX11_weakest_30 rfl (lv_at hl 0 rfl) ?_
      refine lv_iload_n hx hb dX11_weakest_31 rfl (lv_at hl 1 rfl) ?_
      refine ty_ki (wr := []) (wc := ([(rf_MO mo mw ma mf m0 m1 mu mv u0 u1 iz (0) mb mn mpt mbg mwr mwk mlf men), (rf_RW ct 0 mw 958 f)] ++ ws_7)) (va_runV (As := [.int y_1]) (rest := [.int r_5]) ⟨hx, hb, hml, hown, hts⟩ (m_X11_share l D ct S ws_7 ph xx mo mw ma mf m0 m1 mu mv u0 u1 iz mb (0 : Int32) mn mpt mbg mwr mwk mlf men f G cx y_1 _ hT h_mu h_mv h_u0 h_u1 hph hy1 hR (hex_9.2.elim (fun q => absurd q hc_4) (fun q => q))) (cm_V 1 hts kc_X11_share ki_RX11 kl_RX11_366 kv_X11_share kx_X11_share kd_X11_share ⟨Nat.le_of_ble_eq_true rfl, Nat.le_of_ble_eq_true rfl⟩) (ty_preE (wr := []) (wc := ([(rf_MO mo mw ma mf m0 m1 mu mv u0 u1 iz (0) mb mn mpt mbg mwr mwk mlf men), (rf_RW ct 0 mw 958 f)] ++ ws_7)) (ci := 11) (q0 := 0) hP hK hD hS hA hX rfl rfl) rfl rfl hl.1 rfl (lv_room (Nat.le_of_ble_eq_true rfl)) dX11_weakest_32 ⟨Nat.le_of_ble_eq_true rfl, Nat.le_of_ble_eq_true rfl⟩) hP hD hS hA (fun r_8 u H locs hw_9 hP hD hS => ?_)
      obtain ⟨ws_10, rfl⟩ : ∃ z, z = u := ⟨_, rfl⟩
      have hT := hw_9
      have hP : va_P D vwCl ([(rf_MO mo mw ma mf m0 m1 mu mv u0 u1 iz (0) mb mn mpt mbg mwr mwk mlf men), (rf_RW ct 0 mw 958 f)] ++ ws_10) H := hP
      have hD : va_D A ([(rf_MO mo mw ma mf m0 m1 mu mv u0 u1 iz (0) mb mn mpt mbg mwr mwk mlf men), (rf_RW ct 0 mw 958 f)] ++ ws_10) := hD
      refine lv_icmp_ge (tgt := 40) hx hb dX11_weakest_35 (by decide) (fun hc_11 => ?_) (fun hc_11 => ?_)
      · refine lv_iinc (v := (y_2 + Int32.ofInt 1)) (lv' := [(2, .int (y_2 + Int32.ofInt 1)), (0, .ref mo), (1, .int y_1)]) hx hb dX11_weakest_40 hl (k := 2) rfl rfl (by decide) rfl (fun ls hl => ?_)
        refine lv_goto (tgt := 9) hx hb dX11_weakest_43 (by decide) ?_
        exact ih_9 _ _ _ _ (ty_inc (cm_lt hc_3)) ⟨ws_10, y_1, (y_2 + Int32.ofInt 1), rfl, hT, hP, hD, hS, (lv_sub hl [1, 2, 0] rfl), (ty_nn hex_9.1 (cm_lt hc_3)), hex_9.2⟩
      · refine lv_iload_n hx hb dX11_weakest_38 rfl (lv_at hl 2 rfl) ?_
        refine lv_istore_n (lv' := [(1, .int y_2), (0, .ref mo), (2, .int y_2)]) hx hb dX11_weakest_39 rfl hl (by decide) rfl (fun ls hl => ?_)
        refine lv_iinc (v := (y_2 + Int32.ofInt 1)) (lv' := [(2, .int (y_2 + Int32.ofInt 1)), (1, .int y_2), (0, .ref mo)]) hx hb dX11_weakest_40 hl (k := 2) rfl rfl (by decide) rfl (fun ls hl => ?_)
        refine lv_goto (tgt := 9) hx hb dX11_weakest_43 (by decide) ?_
        exact ih_9 _ _ _ _ (ty_inc (cm_lt hc_3)) ⟨ws_10, y_2, (y_2 + Int32.ofInt 1), rfl, hT, hP, hD, hS, (lv_sub hl [2, 1, 0] rfl), (ty_nn hex_9.1 (cm_lt hc_3)), Or.inr ⟨hex_9.1, by rw [← hR.2.1.2.2.2.2.1]; exact rf_ylt rfl hc_3⟩⟩
theorem dX11_hottest_0 : decode cX11_hottest 0 = .ok (.aload_n 0, 1) := by decide +kernel
theorem dX11_hottest_1 : decode cX11_hottest 1 = .ok (.iconst 0, 1) := by decide +kernel
theorem dX11_hottest_2 : decode cX11_hottest 2 = .ok (.putfield 49, 3) := by decide +kernel
theorem dX11_hottest_5 : decode cX11_hottest 5 = .ok (.iconst (-1), 1) := by decide +kernel
theorem dX11_hottest_6 : decode cX11_hottest 6 = .ok (.istore_n 1, 1) := by decide +kernel
theorem dX11_hottest_7 : decode cX11_hottest 7 = .ok (.iconst 0, 1) := by decide +kernel
theorem dX11_hottest_8 : decode cX11_hottest 8 = .ok (.istore_n 2, 1) := by decide +kernel
theorem dX11_hottest_9 : decode cX11_hottest 9 = .ok (.iload_n 2, 1) := by decide +kernel
theorem dX11_hottest_10 : decode cX11_hottest 10 = .ok (.aload_n 0, 1) := by decide +kernel
theorem dX11_hottest_11 : decode cX11_hottest 11 = .ok (.getfield 9, 3) := by decide +kernel
theorem dX11_hottest_14 : decode cX11_hottest 14 = .ok (.bipush 9, 2) := by decide +kernel
theorem dX11_hottest_16 : decode cX11_hottest 16 = .ok (.iaload, 1) := by decide +kernel
theorem dX11_hottest_17 : decode cX11_hottest 17 = .ok (.if_icmp .ge 33, 3) := by decide +kernel
theorem dX11_hottest_20 : decode cX11_hottest 20 = .ok (.iload_n 1, 1) := by decide +kernel
theorem dX11_hottest_21 : decode cX11_hottest 21 = .ok (.iconst (-1), 1) := by decide +kernel
theorem dX11_hottest_22 : decode cX11_hottest 22 = .ok (.if_icmp .eq 20, 3) := by decide +kernel
theorem dX11_hottest_25 : decode cX11_hottest 25 = .ok (.aload_n 0, 1) := by decide +kernel
theorem dX11_hottest_26 : decode cX11_hottest 26 = .ok (.iload_n 2, 1) := by decide +kernel
theorem dX11_hottest_27 : decode cX11_hottest 27 = .ok (.bipush 9, 2) := by decide +kernel
theorem dX11_hottest_29 : decode cX11_hottest 29 = .ok (.invokevirtual 209, 3) := by decide +kernel
theorem dX11_hottest_32 : decode cX11_hottest 32 = .ok (.aload_n 0, 1) := by decide +kernel
theorem dX11_hottest_33 : decode cX11_hottest 33 = .ok (.iload_n 1, 1) := by decide +kernel
theorem dX11_hottest_34 : decode cX11_hottest 34 = .ok (.bipush 9, 2) := by decide +kernel
theorem dX11_hottest_36 : decode cX11_hottest 36 = .ok (.invokevirtual 209, 3) := by decide +kernel
theorem dX11_hottest_39 : decode cX11_hottest 39 = .ok (.if_icmp .le 5, 3) := by decide +kernel
theorem dX11_hottest_42 : decode cX11_hottest 42 = .ok (.iload_n 2, 1) := by decide +kernel
theorem dX11_hottest_43 : decode cX11_hottest 43 = .ok (.istore_n 1, 1) := by decide +kernel
theorem dX11_hottest_44 : decode cX11_hottest 44 = .ok (.iinc 2 1, 3) := by decide +kernel
theorem dX11_hottest_47 : decode cX11_hottest 47 = .ok (.goto (-38), 3) := by decide +kernel
theorem dX11_hottest_50 : decode cX11_hottest 50 = .ok (.iload_n 1, 1) := by decide +kernel
theorem dX11_hottest_51 : decode cX11_hottest 51 = .ok (.ireturn, 1) := by decide +kernel
set_option maxRecDepth 100000 in
set_option maxHeartbeats 4000000 in
theorem m_X11_hottest (l : Launch) (D : va_G) (ct : Nat → ClassId) (S : ty_S) (ws : va_W) (ph : va_W → Prop) (xx : Nat → Nat → Nat → Prop) (mo : Nat) (mw : Nat) (ma : Nat) (mf : Nat) (m0 : Nat) (m1 : Nat) (mu : Nat) (mv : Nat) (u0 : Nat) (u1 : Nat) (iz : Nat) (mb : Nat) (th : Int32) (mn : Int32) (mpt : Int32) (mbg : Int32) (mwr : Int32) (mwk : Int32) (mlf : Int32) (men : Int32) (f : Nat → Int32) (G : Nat → Int32) (cx : Int) (sz : Nat) (hT : ty_V ct S ph ws) (h_mu : S mu = some (.inr (1, 42))) (h_mv : S mv = some (.inr (1, 42))) (h_u0 : S u0 = some (.inr (1, 42))) (h_u1 : S u1 = some (.inr (1, 42))) (hph : ty_C ph xx) (hy1 : ty_y1 xx) (hR : rf_R G cx f) : Met l yX11_hottest (ws_ yX11_hottest cX11_hottest 3 (some .int)) ({ frames := 1, cells := 0, slots := 0, locals := 22 } : Room) (va_Pc [.ref mo] (cmP D ct sz ([(rf_MO mo mw ma mf m0 m1 mu mv u0 u1 iz th mb mn mpt mbg mwr mwk mlf men), (rf_RW ct 0 mw 958 f)] ++ ws))) (va_Qi (fun (r : Int32) (u : va_W × Int32) => match u with | (u9, th1) => ty_V ct S ph u9) (cmB D ([(rf_MO mo mw ma mf m0 m1 mu mv u0 u1 iz th mb mn mpt mbg mwr mwk mlf men), (rf_RW ct 0 mw 958 f)] ++ ws) sz (fun (u : va_W × Int32) => match u with | (u9, th1) => ([(rf_MO mo mw ma mf m0 m1 mu mv u0 u1 iz th1 mb mn mpt mbg mwr mwk mlf men), (rf_RW ct 0 mw 958 f)] ++ u9))) (va_A ([(rf_MO mo mw ma mf m0 m1 mu mv u0 u1 iz th mb mn mpt mbg mwr mwk mlf men), (rf_RW ct 0 mw 958 f)] ++ ws) sz)) 0 0 (va_A ([(rf_MO mo mw ma mf m0 m1 mu mv u0 u1 iz th mb mn mpt mbg mwr mwk mlf men), (rf_RW ct 0 mw 958 f)] ++ ws) sz) := by
  refine Met.ofW (cc := cX11_hottest) (maxL := 3) (ret := (some .int)) (by decide) rfl ?_
  intro p e s m args below meth c s₁ B hml hv
  obtain ⟨rfl, hsz, hP, hK, hD0, hX⟩ := hv
  have hx := B.exec
  have hb := B.bytes
  have hr := B.returns
  have hts := ws_all (atoms_spec (ws := ws_ yX11_hottest cX11_hottest 3 (some .int)) B.pre)
  have hown : s.vm.findClass RX11 = some m.cls := findClass_of_methodNamed B.named
  have hlocks := B.notSynchronized
  subst hsz
  have hD := hD0.self (sz := s.heap.size)
  generalize hAe : va_A ([(rf_MO mo mw ma mf m0 m1 mu mv u0 u1 iz th mb mn mpt mbg mwr mwk mlf men), (rf_RW ct 0 mw 958 f)] ++ ws) s.heap.size = A at hD hX ⊢
  have hA : ∀ q : Nat, s.heap.size ≤ q → A q := fun q h => by rw [← hAe]; exact Or.inr h
  have hS : va_S A s.heap s.heap [] := va_S.rf
  have hl := lv_entry ([.ref mo]) (n := 3) (Nat.le_of_ble_eq_true rfl)
  rw [lg_entry_eq]
  generalize (lg_sl ([.ref mo]) ++ List.replicate (3 - (lg_sl ([.ref mo])).length) Slot.unset).toArray = ls at hl ⊢
  have hl : lv_has ls 3 [(0, .ref mo)] := hl
  refine lv_aload_n hx hb dX11_hottest_0 rfl (lv_at hl 0 rfl) ?_
  refine lv_iconst (v := 0) hx hb dX11_hottest_1 (by decide) ?_
  refine va_put (v := .int 0) (ty := .int) (D := D) (ci := 11) (C := RX11) (T := TX11) (N := 19) hx hb hts in_X11 tyX11 tyX11_ok nmX11 hown hK hP hD hS 0 rfl rfl 10 (by decide) (hts _ kl_RX11_49) (fun _ h9 => h9) rfl (by decide +kernel) rfl rfl (Nat.le_of_ble_eq_true rfl) dX11_hottest_2 (fun H locs hP hD hS => ?_)
  have hP : va_P D vwCl ([(rf_MO mo mw ma mf m0 m1 mu mv u0 u1 iz (0) mb mn mpt mbg mwr mwk mlf men), (rf_RW ct 0 mw 958 f)] ++ ws) H := hP
  have hD : va_D A ([(rf_MO mo mw ma mf m0 m1 mu mv u0 u1 iz (0) mb mn mpt mbg mwr mwk mlf men), (rf_RW ct 0 mw 958 f)] ++ ws) := hD
  refine lv_iconst (v := (-1)) hx hb dX11_hottest_5 (by decide) ?_
  refine lv_istore_n (lv' := [(1, .int (-1)), (0, .ref mo)]) hx hb dX11_hottest_6 rfl hl (by decide) rfl (fun ls hl => ?_)
  refine lv_iconst (v := 0) hx hb dX11_hottest_7 (by decide) ?_
  refine lv_istore_n (lv' := [(2, .int 0), (1, .int (-1)), (0, .ref mo)]) hx hb dX11_hottest_8 rfl hl (by decide) rfl (fun ls hl => ?_)
  refine ty_loop (I := fun μ H locs ls => ∃ (ws : va_W) (y_1 : Int32) (y_2 : Int32), μ = (2147483648 - y_2.toInt).toNat ∧ ty_V ct S ph ws ∧ va_P D vwCl ([(rf_MO mo mw ma mf m0 m1 mu mv u0 u1 iz (0) mb mn mpt mbg mwr mwk mlf men), (rf_RW ct 0 mw 958 f)] ++ ws) H ∧ va_D A ([(rf_MO mo mw ma mf m0 m1 mu mv u0 u1 iz (0) mb mn mpt mbg mwr mwk mlf men), (rf_RW ct 0 mw 958 f)] ++ ws) ∧ va_S A s.heap H locs ∧ lv_has ls 3 [(0, .ref mo), (1, .int y_1), (2, .int y_2)] ∧ 0 ≤ y_2.toInt ∧ (y_1 = -1 ∨ (0 ≤ y_1.toInt ∧ y_1.toInt < (G 9).toInt))) ⟨_, ws, ((-1) : Int32), (0 : Int32), rfl, hT, hP, hD, hS, (lv_sub hl [2, 1, 0] rfl), ⟨by decide, Or.inl rfl⟩⟩ (fun μ H locs ls hI ih_9 => ?_)
  obtain ⟨ws, y_1, y_2, rfl, hT, hP, hD, hS, hl, hex_9⟩ := hI
  refine lv_iload_n hx hb dX11_hottest_9 rfl (lv_at hl 2 rfl) ?_
  refine lv_aload_n hx hb dX11_hottest_10 rfl (lv_at hl 0 rfl) ?_
  refine va_get (v := .ref mw) (D := D) (ci := 11) (C := RX11) (T := TX11) (N := 19) hx hb hts in_X11 hown hK hP 0 rfl rfl 0 (by decide) (hts _ kl_RX11_9) (fun _ h9 => h9) rfl dX11_hottest_11 ?_
  refine lv_bipush (v := 9) hx hb dX11_hottest_14 (by decide) ?_
  refine va_iald hx hb hK hP 1 0 rfl rfl (cm_vin (by decide)) dX11_hottest_16 ?_
  refine cm_cst (y := (f 9)) (by first | rfl | decide +kernel) ?_
  refine lv_icmp_ge (tgt := 50) hx hb dX11_hottest_17 (by decide) (fun hc_3 => ?_) (fun hc_3 => ?_)
  · refine lv_iload_n hx hb dX11_hottest_50 rfl (lv_at hl 1 rfl) ?_
    exact W.iret (v := y_1) hx hb hr (fun t ht hW => ⟨⟨y_1, (ws, (0 : Int32)), rfl, hT, by rw [ht]; exact hP, by rw [hAe]; exact hD⟩, hS.F ht⟩) hS.2.2 dX11_hottest_51
  · refine lv_iload_n hx hb dX11_hottest_20 rfl (lv_at hl 1 rfl) ?_
    refine lv_iconst (v := (-1)) hx hb dX11_hottest_21 (by decide) ?_
    refine lv_icmp_eq (tgt := 42) hx hb dX11_hottest_22 (by decide) (fun hc_4 => ?_) (fun hc_4 => ?_)
    · refine lv_iload_n hx hb dX11_hottest_42 rfl (lv_at hl 2 rfl) ?_
      refine lv_istore_n (lv' := [(1, .int y_2), (0, .ref mo), (2, .int y_2)]) hx hb dX11_hottest_43 rfl hl (by decide) rfl (fun ls hl => ?_)
      refine lv_iinc (v := (y_2 + Int32.ofInt 1)) (lv' := [(2, .int (y_2 + Int32.ofInt 1)), (1, .int y_2), (0, .ref mo)]) hx hb dX11_hottest_44 hl (k := 2) rfl rfl (by decide) rfl (fun ls hl => ?_)
      refine lv_goto (tgt := 9) hx hb dX11_hottest_47 (by decide) ?_
      exact ih_9 _ _ _ _ (ty_inc (cm_lt hc_3)) ⟨ws, y_2, (y_2 + Int32.ofInt 1), rfl, hT, hP, hD, hS, (lv_sub hl [2, 1, 0] rfl), (ty_nn hex_9.1 (cm_lt hc_3)), Or.inr ⟨hex_9.1, by rw [← hR.2.1.2.2.2.2.1]; exact rf_ylt rfl hc_3⟩⟩
    · refine lv_aload_n hx hb dX11_hottest_25 rfl (lv_at hl 0 rfl) ?_
      refine lv_iload_n hx hb dX11_hottest_26 rfl (lv_at hl 2 rfl) ?_
      refine lv_bipush (v := 9) hx hb dX11_hottest_27 (by decide) ?_
      refine ty_ki (wr := []) (wc := ([(rf_MO mo mw ma mf m0 m1 mu mv u0 u1 iz (0) mb mn mpt mbg mwr mwk mlf men), (rf_RW ct 0 mw 958 f)] ++ ws)) (va_runV (As := [.int y_2, .int 9]) (rest := []) ⟨hx, hb, hml, hown, hts⟩ (m_of_9 l D ct S ws ph xx mo mw ma mf m0 m1 mu mv u0 u1 iz mb (0 : Int32) mn mpt mbg mwr mwk mlf men f G cx y_2 _ hT h_mu h_mv h_u0 h_u1 hph hy1 hR ⟨hex_9.1, by rw [← hR.2.1.2.2.2.2.1]; exact rf_ylt rfl hc_3⟩) (cm_V 2 hts kc_X11_of ki_RX11 kl_RX11_209 kv_X11_of kx_X11_of kd_X11_of ⟨Nat.le_of_ble_eq_true rfl, Nat.le_of_ble_eq_true rfl⟩) (ty_preE (wr := []) (wc := ([(rf_MO mo mw ma mf m0 m1 mu mv u0 u1 iz (0) mb mn mpt mbg mwr mwk mlf men), (rf_RW ct 0 mw 958 f)] ++ ws)) (ci := 11) (q0 := 0) hP hK hD hS hA hX rfl rfl) rfl rfl hl.1 rfl (lv_room (Nat.le_of_ble_eq_true rfl)) dX11_hottest_29 ⟨Nat.le_of_ble_eq_true rfl, Nat.le_of_ble_eq_true rfl⟩) hP hD hS hA (fun r_5 u H locs hw_6 hP hD hS => ?_)
      obtain ⟨ws_7, rfl⟩ : ∃ z, z = u := ⟨_, rfl⟩
      obtain ⟨hT, rfl⟩ := hw_6
      have hP : va_P D vwCl ([(rf_MO mo mw ma mf m0 m1 mu mv u0 u1 iz (0) mb mn mpt mbg mwr mwk mlf men), (rf_RW ct 0 mw 958 f)] ++ ws_7) H := hP
      have hD : va_D A ([(rf_MO mo mw ma mf m0 m1 mu mv u0 u1 iz (0) mb mn mpt mbg mwr mwk mlf men), (rf_RW ct 0 mw 958 f)] ++ ws_7) := hD
      refine lv_aload_n hx hb dX11_hottest_32 rfl (lv_at hl 0 rfl) ?_
      refine lv_iload_n hx hb dX11_hottest_33 rfl (lv_at hl 1 rfl) ?_
      refine lv_bipush (v := 9) hx hb dX11_hottest_34 (by decide) ?_
      refine ty_ki (wr := []) (wc := ([(rf_MO mo mw ma mf m0 m1 mu mv u0 u1 iz (0) mb mn mpt mbg mwr mwk mlf men), (rf_RW ct 0 mw 958 f)] ++ ws_7)) (va_runV (As := [.int y_1, .int 9]) (rest := [.int (rf_of f y_2 9)]) ⟨hx, hb, hml, hown, hts⟩ (m_of_9 l D ct S ws_7 ph xx mo mw ma mf m0 m1 mu mv u0 u1 iz mb (0 : Int32) mn mpt mbg mwr mwk mlf men f G cx y_1 _ hT h_mu h_mv h_u0 h_u1 hph hy1 hR (hex_9.2.elim (fun q => absurd q hc_4) (fun q => q))) (cm_V 2 hts kc_X11_of ki_RX11 kl_RX11_209 kv_X11_of kx_X11_of kd_X11_of ⟨Nat.le_of_ble_eq_true rfl, Nat.le_of_ble_eq_true rfl⟩) (ty_preE (wr := []) (wc := ([(rf_MO mo mw ma mf m0 m1 mu mv u0 u1 iz (0) mb mn mpt mbg mwr mwk mlf men), (rf_RW ct 0 mw 958 f)] ++ ws_7)) (ci := 11) (q0 := 0) hP hK hD hS hA hX rfl rfl) rfl rfl hl.1 rfl (lv_room (Nat.le_of_ble_eq_true rfl)) dX11_hottest_36 ⟨Nat.le_of_ble_eq_true rfl, Nat.le_of_ble_eq_true rfl⟩) hP hD hS hA (fun r_8 u H locs hw_9 hP hD hS => ?_)
      obtain ⟨ws_10, rfl⟩ : ∃ z, z = u := ⟨_, rfl⟩
      obtain ⟨hT, rfl⟩ := hw_9
      have hP : va_P D vwCl ([(rf_MO mo mw ma mf m0 m1 mu mv u0 u1 iz (0) mb mn mpt mbg mwr mwk mlf men), (rf_RW ct 0 mw 958 f)] ++ ws_10) H := hP
      have hD : va_D A ([(rf_MO mo mw ma mf m0 m1 mu mv u0 u1 iz (0) mb mn mpt mbg mwr mwk mlf men), (rf_RW ct 0 mw 958 f)] ++ ws_10) := hD
      refine lv_icmp_le (tgt := 44) hx hb dX11_hottest_39 (by decide) (fun hc_11 => ?_) (fun hc_11 => ?_)
      · refine lv_iinc (v := (y_2 + Int32.ofInt 1)) (lv' := [(2, .int (y_2 + Int32.ofInt 1)), (0, .ref mo), (1, .int y_1)]) hx hb dX11_hottest_44 hl (k := 2) rfl rfl (by decide) rfl (fun ls hl => ?_)
        refine lv_goto (tgt := 9) hx hb dX11_hottest_47 (by decide) ?_
        exact ih_9 _ _ _ _ (ty_inc (cm_lt hc_3)) ⟨ws_10, y_1, (y_2 + Int32.ofInt 1), rfl, hT, hP, hD, hS, (lv_sub hl [1, 2, 0] rfl), (ty_nn hex_9.1 (cm_lt hc_3)), hex_9.2⟩
      · refine lv_iload_n hx hb dX11_hottest_42 rfl (lv_at hl 2 rfl) ?_
        refine lv_istore_n (lv' := [(1, .int y_2), (0, .ref mo), (2, .int y_2)]) hx hb dX11_hottest_43 rfl hl (by decide) rfl (fun ls hl => ?_)
        refine lv_iinc (v := (y_2 + Int32.ofInt 1)) (lv' := [(2, .int (y_2 + Int32.ofInt 1)), (1, .int y_2), (0, .ref mo)]) hx hb dX11_hottest_44 hl (k := 2) rfl rfl (by decide) rfl (fun ls hl => ?_)
        refine lv_goto (tgt := 9) hx hb dX11_hottest_47 (by decide) ?_
        exact ih_9 _ _ _ _ (ty_inc (cm_lt hc_3)) ⟨ws_10, y_2, (y_2 + Int32.ofInt 1), rfl, hT, hP, hD, hS, (lv_sub hl [2, 1, 0] rfl), (ty_nn hex_9.1 (cm_lt hc_3)), Or.inr ⟨hex_9.1, by rw [← hR.2.1.2.2.2.2.1]; exact rf_ylt rfl hc_3⟩⟩
theorem dX11_restVoltage_0 : decode cX11_restVoltage 0 = .ok (.aload_n 0, 1) := by decide +kernel
theorem dX11_restVoltage_1 : decode cX11_restVoltage 1 = .ok (.iload_n 1, 1) := by decide +kernel
theorem dX11_restVoltage_2 : decode cX11_restVoltage 2 = .ok (.invokevirtual 344, 3) := by decide +kernel
theorem dX11_restVoltage_5 : decode cX11_restVoltage 5 = .ok (.ifCond .ne 28, 3) := by decide +kernel
theorem dX11_restVoltage_8 : decode cX11_restVoltage 8 = .ok (.aload_n 0, 1) := by decide +kernel
theorem dX11_restVoltage_9 : decode cX11_restVoltage 9 = .ok (.iload_n 2, 1) := by decide +kernel
theorem dX11_restVoltage_10 : decode cX11_restVoltage 10 = .ok (.i2l, 1) := by decide +kernel
theorem dX11_restVoltage_11 : decode cX11_restVoltage 11 = .ok (.lconst 0, 1) := by decide +kernel
theorem dX11_restVoltage_12 : decode cX11_restVoltage 12 = .ok (.ldc2_w 362, 3) := by decide +kernel
theorem dX11_restVoltage_15 : decode cX11_restVoltage 15 = .ok (.invokestatic 70, 3) := by decide +kernel
theorem dX11_restVoltage_18 : decode cX11_restVoltage 18 = .ok (.ifCond .ne 7, 3) := by decide +kernel
theorem dX11_restVoltage_21 : decode cX11_restVoltage 21 = .ok (.iconst 1, 1) := by decide +kernel
theorem dX11_restVoltage_22 : decode cX11_restVoltage 22 = .ok (.goto 4, 3) := by decide +kernel
theorem dX11_restVoltage_25 : decode cX11_restVoltage 25 = .ok (.iconst 0, 1) := by decide +kernel
theorem dX11_restVoltage_26 : decode cX11_restVoltage 26 = .ok (.iconst 2, 1) := by decide +kernel
theorem dX11_restVoltage_27 : decode cX11_restVoltage 27 = .ok (.invokevirtual 328, 3) := by decide +kernel
theorem dX11_restVoltage_30 : decode cX11_restVoltage 30 = .ok (.ifCond .eq 7, 3) := by decide +kernel
theorem dX11_restVoltage_33 : decode cX11_restVoltage 33 = .ok (.iconst 0, 1) := by decide +kernel
theorem dX11_restVoltage_34 : decode cX11_restVoltage 34 = .ok (.goto 9, 3) := by decide +kernel
theorem dX11_restVoltage_37 : decode cX11_restVoltage 37 = .ok (.aload_n 0, 1) := by decide +kernel
theorem dX11_restVoltage_38 : decode cX11_restVoltage 38 = .ok (.iload_n 1, 1) := by decide +kernel
theorem dX11_restVoltage_39 : decode cX11_restVoltage 39 = .ok (.iload_n 2, 1) := by decide +kernel
theorem dX11_restVoltage_40 : decode cX11_restVoltage 40 = .ok (.invokevirtual 231, 3) := by decide +kernel
theorem dX11_restVoltage_43 : decode cX11_restVoltage 43 = .ok (.ireturn, 1) := by decide +kernel
set_option maxRecDepth 100000 in
set_option maxHeartbeats 4000000 in
theorem m_X11_restVoltage (l : Launch) (D : va_G) (ct : Nat → ClassId) (S : ty_S) (ws : va_W) (ph : va_W → Prop) (xx : Nat → Nat → Nat → Prop) (mo : Nat) (mw : Nat) (ma : Nat) (mf : Nat) (m0 : Nat) (m1 : Nat) (mu : Nat) (mv : Nat) (u0 : Nat) (u1 : Nat) (iz : Nat) (mb : Nat) (th : Int32) (mn : Int32) (mpt : Int32) (mbg : Int32) (mwr : Int32) (mwk : Int32) (mlf : Int32) (men : Int32) (f : Nat → Int32) (G : Nat → Int32) (cx : Int) (p1 : Int32) (p2 : Int32) (sz : Nat) (hT : ty_V ct S ph ws) (h_mu : S mu = some (.inr (1, 42))) (h_mv : S mv = some (.inr (1, 42))) (h_u0 : S u0 = some (.inr (1, 42))) (h_u1 : S u1 = some (.inr (1, 42))) (hph : ty_C ph xx) (hy1 : ty_y1 xx) (hR : rf_R G cx f) : Met l yX11_restVoltage (ws_ yX11_restVoltage cX11_restVoltage 3 (some .int)) ({ frames := 2, cells := 0, slots := 0, locals := 53 } : Room) (va_Pc [.ref mo, .int p1, .int p2] (cmP D ct sz ([(rf_MO mo mw ma mf m0 m1 mu mv u0 u1 iz th mb mn mpt mbg mwr mwk mlf men), (rf_RW ct 0 mw 958 f)] ++ ws))) (va_Qi (fun (r : Int32) (u : va_W × Int32) => match u with | (u9, th1) => ty_V ct S ph u9) (cmB D ([(rf_MO mo mw ma mf m0 m1 mu mv u0 u1 iz th mb mn mpt mbg mwr mwk mlf men), (rf_RW ct 0 mw 958 f)] ++ ws) sz (fun (u : va_W × Int32) => match u with | (u9, th1) => ([(rf_MO mo mw ma mf m0 m1 mu mv u0 u1 iz th1 mb mn mpt mbg mwr mwk mlf men), (rf_RW ct 0 mw 958 f)] ++ u9))) (va_A ([(rf_MO mo mw ma mf m0 m1 mu mv u0 u1 iz th mb mn mpt mbg mwr mwk mlf men), (rf_RW ct 0 mw 958 f)] ++ ws) sz)) 0 0 (va_A ([(rf_MO mo mw ma mf m0 m1 mu mv u0 u1 iz th mb mn mpt mbg mwr mwk mlf men), (rf_RW ct 0 mw 958 f)] ++ ws) sz) := by
  refine Met.ofW (cc := cX11_restVoltage) (maxL := 3) (ret := (some .int)) (by decide) rfl ?_
  intro p e s m args below meth c s₁ B hml hv
  obtain ⟨rfl, hsz, hP, hK, hD0, hX⟩ := hv
  have hx := B.exec
  have hb := B.bytes
  have hr := B.returns
  have hts := ws_all (atoms_spec (ws := ws_ yX11_restVoltage cX11_restVoltage 3 (some .int)) B.pre)
  have hown : s.vm.findClass RX11 = some m.cls := findClass_of_methodNamed B.named
  have hlocks := B.notSynchronized
  subst hsz
  have hD := hD0.self (sz := s.heap.size)
  generalize hAe : va_A ([(rf_MO mo mw ma mf m0 m1 mu mv u0 u1 iz th mb mn mpt mbg mwr mwk mlf men), (rf_RW ct 0 mw 958 f)] ++ ws) s.heap.size = A at hD hX ⊢
  have hA : ∀ q : Nat, s.heap.size ≤ q → A q := fun q h => by rw [← hAe]; exact Or.inr h
  have hS : va_S A s.heap s.heap [] := va_S.rf
  have hl := lv_entry ([.ref mo, .int p1, .int p2]) (n := 3) (Nat.le_of_ble_eq_true rfl)
  rw [lg_entry_eq]
  generalize (lg_sl ([.ref mo, .int p1, .int p2]) ++ List.replicate (3 - (lg_sl ([.ref mo, .int p1, .int p2])).length) Slot.unset).toArray = ls at hl ⊢
  have hl : lv_has ls 3 [(0, .ref mo), (1, .int p1), (2, .int p2)] := hl
  refine lv_aload_n hx hb dX11_restVoltage_0 rfl (lv_at hl 0 rfl) ?_
  refine lv_iload_n hx hb dX11_restVoltage_1 rfl (lv_at hl 1 rfl) ?_
  refine ty_ki (wr := []) (wc := ([(rf_MO mo mw ma mf m0 m1 mu mv u0 u1 iz th mb mn mpt mbg mwr mwk mlf men), (rf_RW ct 0 mw 958 f)] ++ ws)) (va_runV (As := [.int p1]) (rest := []) ⟨hx, hb, hml, hown, hts⟩ (m_X11_noChannel l D ct S ws ph xx mo mw ma mf m0 m1 mu mv u0 u1 iz mb th mn mpt mbg mwr mwk mlf men f G cx p1 _ hT h_mu h_mv h_u0 h_u1 hph hy1 hR) (cm_V 1 hts kc_X11_noChannel ki_RX11 kl_RX11_344 kv_X11_noChannel kx_X11_noChannel kd_X11_noChannel ⟨Nat.le_of_ble_eq_true rfl, Nat.le_of_ble_eq_true rfl⟩) (ty_preE (wr := []) (wc := ([(rf_MO mo mw ma mf m0 m1 mu mv u0 u1 iz th mb mn mpt mbg mwr mwk mlf men), (rf_RW ct 0 mw 958 f)] ++ ws)) (ci := 11) (q0 := 0) hP hK hD hS hA hX rfl rfl) rfl rfl hl.1 rfl (lv_room (Nat.le_of_ble_eq_true rfl)) dX11_restVoltage_2 ⟨Nat.le_of_ble_eq_true rfl, Nat.le_of_ble_eq_true rfl⟩) hP hD hS hA (fun r_1 u H locs hw_2 hP hD hS => ?_)
  obtain ⟨ws_3, th1_4⟩ := u
  obtain ⟨hT, hp_5⟩ := hw_2
  have hp_5 : ((r_1 = 0 ∧ 0 ≤ p1.toInt ∧ p1.toInt < (G 9).toInt) ∨ r_1 = 1) := hp_5
  have hP : va_P D vwCl ([(rf_MO mo mw ma mf m0 m1 mu mv u0 u1 iz th1_4 mb mn mpt mbg mwr mwk mlf men), (rf_RW ct 0 mw 958 f)] ++ ws_3) H := hP
  have hD : va_D A ([(rf_MO mo mw ma mf m0 m1 mu mv u0 u1 iz th1_4 mb mn mpt mbg mwr mwk mlf men), (rf_RW ct 0 mw 958 f)] ++ ws_3) := hD
  rcases hp_5 with ⟨rfl, hz_6⟩ | rfl
  · refine lv_if_ne (tgt := 33) hx hb dX11_restVoltage_5 (by decide) (fun hc => absurd (by decide) hc) (fun _ => ?_)
    refine lv_aload_n hx hb dX11_restVoltage_8 rfl (lv_at hl 0 rfl) ?_
    refine lv_iload_n hx hb dX11_restVoltage_9 rfl (lv_at hl 2 rfl) ?_
    refine lv_i2l hx hb dX11_restVoltage_10 rfl ?_
    refine lv_lconst (v := 0) hx hb dX11_restVoltage_11 (by decide) ?_
    refine lv_ldc2 hx hb hown (hts _ kl_RX11_362) dX11_restVoltage_12 ?_
    refine ty_ki (wr := [(rf_MO mo mw ma mf m0 m1 mu mv u0 u1 iz th1_4 mb mn mpt mbg mwr mwk mlf men), (rf_RW ct 0 mw 958 f)]) (wc := ([] ++ ws_3)) (va_runS (As := [.long p2.toInt64, .long 0, .long 200000]) (rest := [.ref mo]) ⟨hx, hb, hml, hown, hts⟩ (m_X11_in l D ct S ws_3 ph xx p2.toInt64 (0 : Int64) (200000 : Int64) _ hT hph hy1) (cm_S 3 hts kc_X11_in ki_RX11 kl_RX11_70 ks_X11_in kd_X11_in ⟨Nat.le_of_ble_eq_true rfl, Nat.le_of_ble_eq_true rfl⟩) (ty_preS (wr := [(rf_MO mo mw ma mf m0 m1 mu mv u0 u1 iz th1_4 mb mn mpt mbg mwr mwk mlf men), (rf_RW ct 0 mw 958 f)]) (wc := ([] ++ ws_3)) hP hK hD hS hA hX) rfl rfl hl.1 rfl (lv_room (Nat.le_of_ble_eq_true rfl)) dX11_restVoltage_15 ⟨Nat.le_of_ble_eq_true rfl, Nat.le_of_ble_eq_true rfl⟩) hP hD hS hA (fun r_7 u H locs hw_8 hP hD hS => ?_)
    obtain ⟨ws_9, rfl⟩ : ∃ z, z = u := ⟨_, rfl⟩
    obtain ⟨hT, rfl⟩ := hw_8
    have hP : va_P D vwCl ([(rf_MO mo mw ma mf m0 m1 mu mv u0 u1 iz th1_4 mb mn mpt mbg mwr mwk mlf men), (rf_RW ct 0 mw 958 f)] ++ ws_9) H := hP
    have hD : va_D A ([(rf_MO mo mw ma mf m0 m1 mu mv u0 u1 iz th1_4 mb mn mpt mbg mwr mwk mlf men), (rf_RW ct 0 mw 958 f)] ++ ws_9) := hD
    refine lv_if_ne (tgt := 25) hx hb dX11_restVoltage_18 (by decide) (fun hc_10 => ?_) (fun hc_10 => ?_)
    · refine lv_iconst (v := 0) hx hb dX11_restVoltage_25 (by decide) ?_
      refine lv_iconst (v := 2) hx hb dX11_restVoltage_26 (by decide) ?_
      have hP : va_P D vwCl ([(rf_RW ct 0 mw 958 f), (rf_MO mo mw ma mf m0 m1 mu mv u0 u1 iz th1_4 mb mn mpt mbg mwr mwk mlf men)] ++ ws_9) H := ty_permP hP (ty_ordp (E := [(rf_MO mo mw ma mf m0 m1 mu mv u0 u1 iz th1_4 mb mn mpt mbg mwr mwk mlf men), (rf_RW ct 0 mw 958 f)]) (E2 := [(rf_RW ct 0 mw 958 f), (rf_MO mo mw ma mf m0 m1 mu mv u0 u1 iz th1_4 mb mn mpt mbg mwr mwk mlf men)]) (n := 2) [1, 0] rfl rfl (by decide))
      have hD : va_D A ([(rf_RW ct 0 mw 958 f), (rf_MO mo mw ma mf m0 m1 mu mv u0 u1 iz th1_4 mb mn mpt mbg mwr mwk mlf men)] ++ ws_9) := ty_permD hD (ty_ordp (E := [(rf_MO mo mw ma mf m0 m1 mu mv u0 u1 iz th1_4 mb mn mpt mbg mwr mwk mlf men), (rf_RW ct 0 mw 958 f)]) (E2 := [(rf_RW ct 0 mw 958 f), (rf_MO mo mw ma mf m0 m1 mu mv u0 u1 iz th1_4 mb mn mpt mbg mwr mwk mlf men)]) (n := 2) [1, 0] rfl rfl (by decide))
      refine ty_ki (wr := [(rf_RW ct 0 mw 958 f)]) (wc := ([(rf_MO mo mw ma mf m0 m1 mu mv u0 u1 iz th1_4 mb mn mpt mbg mwr mwk mlf men)] ++ ws_9)) (va_runV (As := [.int 0, .int 2]) (rest := []) ⟨hx, hb, hml, hown, hts⟩ (m_X11_throwsIf l D ct S ws_9 ph xx mo mw ma mf m0 m1 mu mv u0 u1 iz mb th1_4 mn mpt mbg mwr mwk mlf men (0 : Int32) (2 : Int32) _ hT h_mu h_mv h_u0 h_u1 hph hy1 (by decide)) (cm_V 2 hts kc_X11_throwsIf ki_RX11 kl_RX11_328 kv_X11_throwsIf kx_X11_throwsIf kd_X11_throwsIf ⟨Nat.le_of_ble_eq_true rfl, Nat.le_of_ble_eq_true rfl⟩) (ty_preE (wr := [(rf_RW ct 0 mw 958 f)]) (wc := ([(rf_MO mo mw ma mf m0 m1 mu mv u0 u1 iz th1_4 mb mn mpt mbg mwr mwk mlf men)] ++ ws_9)) (ci := 11) (q0 := 1) hP hK hD hS hA hX rfl rfl) rfl rfl hl.1 rfl (lv_room (Nat.le_of_ble_eq_true rfl)) dX11_restVoltage_27 ⟨Nat.le_of_ble_eq_true rfl, Nat.le_of_ble_eq_true rfl⟩) hP hD hS hA (fun r_11 u H locs hw_12 hP hD hS => ?_)
      obtain ⟨ws_13, th1_14⟩ := u
      obtain ⟨hT, hp_15⟩ := hw_12
      have hp_15 : ((r_11 = 0 ∧ (0 : Int32) = 0) ∨ r_11 = 1) := hp_15
      have hP : va_P D vwCl ([(rf_RW ct 0 mw 958 f), (rf_MO mo mw ma mf m0 m1 mu mv u0 u1 iz th1_14 mb mn mpt mbg mwr mwk mlf men)] ++ ws_13) H := hP
      have hD : va_D A ([(rf_RW ct 0 mw 958 f), (rf_MO mo mw ma mf m0 m1 mu mv u0 u1 iz th1_14 mb mn mpt mbg mwr mwk mlf men)] ++ ws_13) := hD
      rcases hp_15 with ⟨rfl, hz_16⟩ | rfl
      · refine lv_if_eq (tgt := 37) hx hb dX11_restVoltage_30 (by decide) (fun _ => ?_) (fun hc => absurd (by decide) hc)
        refine lv_aload_n hx hb dX11_restVoltage_37 rfl (lv_at hl 0 rfl) ?_
        refine lv_iload_n hx hb dX11_restVoltage_38 rfl (lv_at hl 1 rfl) ?_
        refine lv_iload_n hx hb dX11_restVoltage_39 rfl (lv_at hl 2 rfl) ?_
        have hP : va_P D vwCl ([(rf_MO mo mw ma mf m0 m1 mu mv u0 u1 iz th1_14 mb mn mpt mbg mwr mwk mlf men), (rf_RW ct 0 mw 958 f)] ++ ws_13) H := ty_permP hP (ty_ordp (E := [(rf_RW ct 0 mw 958 f), (rf_MO mo mw ma mf m0 m1 mu mv u0 u1 iz th1_14 mb mn mpt mbg mwr mwk mlf men)]) (E2 := [(rf_MO mo mw ma mf m0 m1 mu mv u0 u1 iz th1_14 mb mn mpt mbg mwr mwk mlf men), (rf_RW ct 0 mw 958 f)]) (n := 2) [1, 0] rfl rfl (by decide))
        have hD : va_D A ([(rf_MO mo mw ma mf m0 m1 mu mv u0 u1 iz th1_14 mb mn mpt mbg mwr mwk mlf men), (rf_RW ct 0 mw 958 f)] ++ ws_13) := ty_permD hD (ty_ordp (E := [(rf_RW ct 0 mw 958 f), (rf_MO mo mw ma mf m0 m1 mu mv u0 u1 iz th1_14 mb mn mpt mbg mwr mwk mlf men)]) (E2 := [(rf_MO mo mw ma mf m0 m1 mu mv u0 u1 iz th1_14 mb mn mpt mbg mwr mwk mlf men), (rf_RW ct 0 mw 958 f)]) (n := 2) [1, 0] rfl rfl (by decide))
        refine ty_ki (wr := []) (wc := ([(rf_MO mo mw ma mf m0 m1 mu mv u0 u1 iz th1_14 mb mn mpt mbg mwr mwk mlf men), (rf_RW ct 0 mw 958 f)] ++ ws_13)) (va_runV (As := [.int p1, .int p2]) (rest := []) ⟨hx, hb, hml, hown, hts⟩ (m_X11_restAt l D ct S ws_13 ph xx mo mw ma mf m0 m1 mu mv u0 u1 iz mb th1_14 mn mpt mbg mwr mwk mlf men f G cx p1 p2 _ hT h_mu h_mv h_u0 h_u1 hph hy1 hR hz_6 ((rf_rngc (L := 0) (U := 200000) (by decide) (by decide) hc_10)).1) (cm_V 2 hts kc_X11_restAt ki_RX11 kl_RX11_231 kv_X11_restAt kx_X11_restAt kd_X11_restAt ⟨Nat.le_of_ble_eq_true rfl, Nat.le_of_ble_eq_true rfl⟩) (ty_preE (wr := []) (wc := ([(rf_MO mo mw ma mf m0 m1 mu mv u0 u1 iz th1_14 mb mn mpt mbg mwr mwk mlf men), (rf_RW ct 0 mw 958 f)] ++ ws_13)) (ci := 11) (q0 := 0) hP hK hD hS hA hX rfl rfl) rfl rfl hl.1 rfl (lv_room (Nat.le_of_ble_eq_true rfl)) dX11_restVoltage_40 ⟨Nat.le_of_ble_eq_true rfl, Nat.le_of_ble_eq_true rfl⟩) hP hD hS hA (fun r_17 u H locs hw_18 hP hD hS => ?_)
        obtain ⟨ws_19, rfl⟩ : ∃ z, z = u := ⟨_, rfl⟩
        have hT := hw_18
        have hP : va_P D vwCl ([(rf_MO mo mw ma mf m0 m1 mu mv u0 u1 iz th1_14 mb mn mpt mbg mwr mwk mlf men), (rf_RW ct 0 mw 958 f)] ++ ws_19) H := hP
        have hD : va_D A ([(rf_MO mo mw ma mf m0 m1 mu mv u0 u1 iz th1_14 mb mn mpt mbg mwr mwk mlf men), (rf_RW ct 0 mw 958 f)] ++ ws_19) := hD
        exact W.iret (v := r_17) hx hb hr (fun t ht hW => ⟨⟨r_17, (ws_19, th1_14), rfl, hT, by rw [ht]; exact hP, by rw [hAe]; exact hD⟩, hS.F ht⟩) hS.2.2 dX11_restVoltage_43
      · refine lv_if_eq (tgt := 37) hx hb dX11_restVoltage_30 (by decide) (fun hc => absurd hc (by decide)) (fun _ => ?_)
        refine lv_iconst (v := 0) hx hb dX11_restVoltage_33 (by decide) ?_
        refine lv_goto (tgt := 43) hx hb dX11_restVoltage_34 (by decide) ?_
        have hP : va_P D vwCl ([(rf_MO mo mw ma mf m0 m1 mu mv u0 u1 iz th1_14 mb mn mpt mbg mwr mwk mlf men), (rf_RW ct 0 mw 958 f)] ++ ws_13) H := ty_permP hP (ty_ordp (E := [(rf_RW ct 0 mw 958 f), (rf_MO mo mw ma mf m0 m1 mu mv u0 u1 iz th1_14 mb mn mpt mbg mwr mwk mlf men)]) (E2 := [(rf_MO mo mw ma mf m0 m1 mu mv u0 u1 iz th1_14 mb mn mpt mbg mwr mwk mlf men), (rf_RW ct 0 mw 958 f)]) (n := 2) [1, 0] rfl rfl (by decide))
        have hD : va_D A ([(rf_MO mo mw ma mf m0 m1 mu mv u0 u1 iz th1_14 mb mn mpt mbg mwr mwk mlf men), (rf_RW ct 0 mw 958 f)] ++ ws_13) := ty_permD hD (ty_ordp (E := [(rf_RW ct 0 mw 958 f), (rf_MO mo mw ma mf m0 m1 mu mv u0 u1 iz th1_14 mb mn mpt mbg mwr mwk mlf men)]) (E2 := [(rf_MO mo mw ma mf m0 m1 mu mv u0 u1 iz th1_14 mb mn mpt mbg mwr mwk mlf men), (rf_RW ct 0 mw 958 f)]) (n := 2) [1, 0] rfl rfl (by decide))
        exact W.iret (v := 0) hx hb hr (fun t ht hW => ⟨⟨0, (ws_13, th1_14), rfl, hT, by rw [ht]; exact hP, by rw [hAe]; exact hD⟩, hS.F ht⟩) hS.2.2 dX11_restVoltage_43
    · refine lv_iconst (v := 1) hx hb dX11_restVoltage_21 (by decide) ?_
      refine lv_goto (tgt := 26) hx hb dX11_restVoltage_22 (by decide) ?_
      refine lv_iconst (v := 2) hx hb dX11_restVoltage_26 (by decide) ?_
      have hP : va_P D vwCl ([(rf_RW ct 0 mw 958 f), (rf_MO mo mw ma mf m0 m1 mu mv u0 u1 iz th1_4 mb mn mpt mbg mwr mwk mlf men)] ++ ws_9) H := ty_permP hP (ty_ordp (E := [(rf_MO mo mw ma mf m0 m1 mu mv u0 u1 iz th1_4 mb mn mpt mbg mwr mwk mlf men), (rf_RW ct 0 mw 958 f)]) (E2 := [(rf_RW ct 0 mw 958 f), (rf_MO mo mw ma mf m0 m1 mu mv u0 u1 iz th1_4 mb mn mpt mbg mwr mwk mlf men)]) (n := 2) [1, 0] rfl rfl (by decide))
      have hD : va_D A ([(rf_RW ct 0 mw 958 f), (rf_MO mo mw ma mf m0 m1 mu mv u0 u1 iz th1_4 mb mn mpt mbg mwr mwk mlf men)] ++ ws_9) := ty_permD hD (ty_ordp (E := [(rf_MO mo mw ma mf m0 m1 mu mv u0 u1 iz th1_4 mb mn mpt mbg mwr mwk mlf men), (rf_RW ct 0 mw 958 f)]) (E2 := [(rf_RW ct 0 mw 958 f), (rf_MO mo mw ma mf m0 m1 mu mv u0 u1 iz th1_4 mb mn mpt mbg mwr mwk mlf men)]) (n := 2) [1, 0] rfl rfl (by decide))
      refine ty_ki (wr := [(rf_RW ct 0 mw 958 f)]) (wc := ([(rf_MO mo mw ma mf m0 m1 mu mv u0 u1 iz th1_4 mb mn mpt mbg mwr mwk mlf men)] ++ ws_9)) (va_runV (As := [.int 1, .int 2]) (rest := []) ⟨hx, hb, hml, hown, hts⟩ (m_X11_throwsIf l D ct S ws_9 ph xx mo mw ma mf m0 m1 mu mv u0 u1 iz mb th1_4 mn mpt mbg mwr mwk mlf men (1 : Int32) (2 : Int32) _ hT h_mu h_mv h_u0 h_u1 hph hy1 (by decide)) (cm_V 2 hts kc_X11_throwsIf ki_RX11 kl_RX11_328 kv_X11_throwsIf kx_X11_throwsIf kd_X11_throwsIf ⟨Nat.le_of_ble_eq_true rfl, Nat.le_of_ble_eq_true rfl⟩) (ty_preE (wr := [(rf_RW ct 0 mw 958 f)]) (wc := ([(rf_MO mo mw ma mf m0 m1 mu mv u0 u1 iz th1_4 mb mn mpt mbg mwr mwk mlf men)] ++ ws_9)) (ci := 11) (q0 := 1) hP hK hD hS hA hX rfl rfl) rfl rfl hl.1 rfl (lv_room (Nat.le_of_ble_eq_true rfl)) dX11_restVoltage_27 ⟨Nat.le_of_ble_eq_true rfl, Nat.le_of_ble_eq_true rfl⟩) hP hD hS hA (fun r_20 u H locs hw_21 hP hD hS => ?_)
      obtain ⟨ws_22, th1_23⟩ := u
      obtain ⟨hT, hp_24⟩ := hw_21
      have hp_24 : ((r_20 = 0 ∧ (1 : Int32) = 0) ∨ r_20 = 1) := hp_24
      have hP : va_P D vwCl ([(rf_RW ct 0 mw 958 f), (rf_MO mo mw ma mf m0 m1 mu mv u0 u1 iz th1_23 mb mn mpt mbg mwr mwk mlf men)] ++ ws_22) H := hP
      have hD : va_D A ([(rf_RW ct 0 mw 958 f), (rf_MO mo mw ma mf m0 m1 mu mv u0 u1 iz th1_23 mb mn mpt mbg mwr mwk mlf men)] ++ ws_22) := hD
      rcases hp_24 with ⟨rfl, hz_25⟩ | rfl
      · exact absurd hz_25 (by decide)
      · refine lv_if_eq (tgt := 37) hx hb dX11_restVoltage_30 (by decide) (fun hc => absurd hc (by decide)) (fun _ => ?_)
        refine lv_iconst (v := 0) hx hb dX11_restVoltage_33 (by decide) ?_
        refine lv_goto (tgt := 43) hx hb dX11_restVoltage_34 (by decide) ?_
        have hP : va_P D vwCl ([(rf_MO mo mw ma mf m0 m1 mu mv u0 u1 iz th1_23 mb mn mpt mbg mwr mwk mlf men), (rf_RW ct 0 mw 958 f)] ++ ws_22) H := ty_permP hP (ty_ordp (E := [(rf_RW ct 0 mw 958 f), (rf_MO mo mw ma mf m0 m1 mu mv u0 u1 iz th1_23 mb mn mpt mbg mwr mwk mlf men)]) (E2 := [(rf_MO mo mw ma mf m0 m1 mu mv u0 u1 iz th1_23 mb mn mpt mbg mwr mwk mlf men), (rf_RW ct 0 mw 958 f)]) (n := 2) [1, 0] rfl rfl (by decide))
        have hD : va_D A ([(rf_MO mo mw ma mf m0 m1 mu mv u0 u1 iz th1_23 mb mn mpt mbg mwr mwk mlf men), (rf_RW ct 0 mw 958 f)] ++ ws_22) := ty_permD hD (ty_ordp (E := [(rf_RW ct 0 mw 958 f), (rf_MO mo mw ma mf m0 m1 mu mv u0 u1 iz th1_23 mb mn mpt mbg mwr mwk mlf men)]) (E2 := [(rf_MO mo mw ma mf m0 m1 mu mv u0 u1 iz th1_23 mb mn mpt mbg mwr mwk mlf men), (rf_RW ct 0 mw 958 f)]) (n := 2) [1, 0] rfl rfl (by decide))
        exact W.iret (v := 0) hx hb hr (fun t ht hW => ⟨⟨0, (ws_22, th1_23), rfl, hT, by rw [ht]; exact hP, by rw [hAe]; exact hD⟩, hS.F ht⟩) hS.2.2 dX11_restVoltage_43
  · refine lv_if_ne (tgt := 33) hx hb dX11_restVoltage_5 (by decide) (fun _ => ?_) (fun hc => absurd hc (by decide))
    refine lv_iconst (v := 0) hx hb dX11_restVoltage_33 (by decide) ?_
    refine lv_goto (tgt := 43) hx hb dX11_restVoltage_34 (by decide) ?_
    exact W.iret (v := 0) hx hb hr (fun t ht hW => ⟨⟨0, (ws_3, th1_4), rfl, hT, by rw [ht]; exact hP, by rw [hAe]; exact hD⟩, hS.F ht⟩) hS.2.2 dX11_restVoltage_43
