theorem dX11_readsAll_0 : decode cX11_readsAll 0 = .ok (.aload_n 0, 1) := by decide +kernel
theorem dX11_readsAll_1 : decode cX11_readsAll 1 = .ok (.invokevirtual 195, 3) := by decide +kernel
theorem dX11_readsAll_4 : decode cX11_readsAll 4 = .ok (.ifCond .ne 5, 3) := by decide +kernel
theorem dX11_readsAll_7 : decode cX11_readsAll 7 = .ok (.iconst 0, 1) := by decide +kernel
theorem dX11_readsAll_8 : decode cX11_readsAll 8 = .ok (.ireturn, 1) := by decide +kernel
theorem dX11_readsAll_9 : decode cX11_readsAll 9 = .ok (.aload_n 0, 1) := by decide +kernel
theorem dX11_readsAll_10 : decode cX11_readsAll 10 = .ok (.invokevirtual 106, 3) := by decide +kernel
theorem dX11_readsAll_13 : decode cX11_readsAll 13 = .ok (.bipush 59, 2) := by decide +kernel
theorem dX11_readsAll_15 : decode cX11_readsAll 15 = .ok (.if_icmp .ne 22, 3) := by decide +kernel
theorem dX11_readsAll_18 : decode cX11_readsAll 18 = .ok (.aload_n 0, 1) := by decide +kernel
theorem dX11_readsAll_19 : decode cX11_readsAll 19 = .ok (.dup, 1) := by decide +kernel
theorem dX11_readsAll_20 : decode cX11_readsAll 20 = .ok (.getfield 78, 3) := by decide +kernel
theorem dX11_readsAll_23 : decode cX11_readsAll 23 = .ok (.iconst 1, 1) := by decide +kernel
theorem dX11_readsAll_24 : decode cX11_readsAll 24 = .ok (.iadd, 1) := by decide +kernel
theorem dX11_readsAll_25 : decode cX11_readsAll 25 = .ok (.putfield 78, 3) := by decide +kernel
theorem dX11_readsAll_28 : decode cX11_readsAll 28 = .ok (.aload_n 0, 1) := by decide +kernel
theorem dX11_readsAll_29 : decode cX11_readsAll 29 = .ok (.invokevirtual 195, 3) := by decide +kernel
theorem dX11_readsAll_32 : decode cX11_readsAll 32 = .ok (.ifCond .ne (-23), 3) := by decide +kernel
theorem dX11_readsAll_35 : decode cX11_readsAll 35 = .ok (.iconst 0, 1) := by decide +kernel
theorem dX11_readsAll_36 : decode cX11_readsAll 36 = .ok (.ireturn, 1) := by decide +kernel
theorem dX11_readsAll_37 : decode cX11_readsAll 37 = .ok (.aload_n 0, 1) := by decide +kernel
theorem dX11_readsAll_38 : decode cX11_readsAll 38 = .ok (.invokevirtual 106, 3) := by decide +kernel
theorem dX11_readsAll_41 : decode cX11_readsAll 41 = .ok (.iconst (-1), 1) := by decide +kernel
theorem dX11_readsAll_42 : decode cX11_readsAll 42 = .ok (.if_icmp .eq 11, 3) := by decide +kernel
theorem dX11_readsAll_45 : decode cX11_readsAll 45 = .ok (.aload_n 0, 1) := by decide +kernel
theorem dX11_readsAll_46 : decode cX11_readsAll 46 = .ok (.iconst 1, 1) := by decide +kernel
theorem dX11_readsAll_47 : decode cX11_readsAll 47 = .ok (.invokevirtual 112, 3) := by decide +kernel
theorem dX11_readsAll_50 : decode cX11_readsAll 50 = .ok (.ifCond .eq 7, 3) := by decide +kernel
theorem dX11_readsAll_53 : decode cX11_readsAll 53 = .ok (.iconst 1, 1) := by decide +kernel
theorem dX11_readsAll_54 : decode cX11_readsAll 54 = .ok (.goto 4, 3) := by decide +kernel
theorem dX11_readsAll_57 : decode cX11_readsAll 57 = .ok (.iconst 0, 1) := by decide +kernel
theorem dX11_readsAll_58 : decode cX11_readsAll 58 = .ok (.ireturn, 1) := by decide +kernel
set_option maxRecDepth 100000 in
set_option maxHeartbeats 4000000 in
theorem m_X11_readsAll (l : Launch) (D : va_G) (ct : Nat → ClassId) (S : ty_S) (ws : va_W) (mo : Nat) (mw : Nat) (ma : Nat) (mf : Nat) (m0 : Nat) (m1 : Nat) (mu : Nat) (mv : Nat) (u0 : Nat) (u1 : Nat) (iz : Nat) (mb : Nat) (th : Int32) (mn : Int32) (mpt : Int32) (mbg : Int32) (mwr : Int32) (mwk : Int32) (mlf : Int32) (men : Int32) (b : Nat → Int32) (g : Nat → Int32) (sz : Nat) (hT : ty_W ct S ws) (hmn : 0 ≤ mn.toInt ∧ mn.toInt ≤ 800) (hpt : 0 ≤ mpt.toInt ∧ mpt.toInt ≤ 800) (hL : rf_L g) : Met l yX11_readsAll (ws_ yX11_readsAll cX11_readsAll 1 (some .boolean)) ({ frames := 8, cells := 0, slots := 0, locals := 175 } : Room) (va_Pc [.ref mo] (cmP D ct sz ([(rf_MO mo mw ma mf m0 m1 mu mv u0 u1 iz th mb mn mpt mbg mwr mwk mlf men), (rf_RW ct 0 mb 800 b), (rf_RW ct 0 mf 958 g)] ++ ws))) (va_Qi (fun (r : Int32) (u : va_W × Int32 × Int32 × Int32 × Int32 × (Nat → Int32)) => match u with | (u9, mpt1, mbg1, mwr1, mwk1, g1) => ty_W ct S u9 ∧ ((mpt.toInt ≤ mpt1.toInt ∧ mpt1.toInt ≤ 800) ∧ 0 ≤ mbg1.toInt ∧ mbg1.toInt ≤ 800) ∧ (r = 0 ∨ (r = 1 ∧ rf_L g1))) (cmB D ([(rf_MO mo mw ma mf m0 m1 mu mv u0 u1 iz th mb mn mpt mbg mwr mwk mlf men), (rf_RW ct 0 mb 800 b), (rf_RW ct 0 mf 958 g)] ++ ws) sz (fun (u : va_W × Int32 × Int32 × Int32 × Int32 × (Nat → Int32)) => match u with | (u9, mpt1, mbg1, mwr1, mwk1, g1) => ([(rf_MO mo mw ma mf m0 m1 mu mv u0 u1 iz th mb mn mpt1 mbg1 mwr1 mwk1 mlf men), (rf_RW ct 0 mb 800 b), (rf_RW ct 0 mf 958 g1)] ++ u9))) (va_A ([(rf_MO mo mw ma mf m0 m1 mu mv u0 u1 iz th mb mn mpt mbg mwr mwk mlf men), (rf_RW ct 0 mb 800 b), (rf_RW ct 0 mf 958 g)] ++ ws) sz)) 0 0 (va_A ([(rf_MO mo mw ma mf m0 m1 mu mv u0 u1 iz th mb mn mpt mbg mwr mwk mlf men), (rf_RW ct 0 mb 800 b), (rf_RW ct 0 mf 958 g)] ++ ws) sz) := by
  refine Met.ofW (cc := cX11_readsAll) (maxL := 1) (ret := (some .boolean)) (by decide) rfl ?_
  intro p e s m args below meth c s₁ B hml hv
  obtain ⟨rfl, hsz, hP, hK, hD0, hX⟩ := hv
  have hx := B.exec
  have hb := B.bytes
  have hr := B.returns
  have hts := ws_all (atoms_spec (ws := ws_ yX11_readsAll cX11_readsAll 1 (some .boolean)) B.pre)
  have hown : s.vm.findClass RX11 = some m.cls := findClass_of_methodNamed B.named
  have hlocks := B.notSynchronized
  subst hsz
  have hD := hD0.self (sz := s.heap.size)
  generalize hAe : va_A ([(rf_MO mo mw ma mf m0 m1 mu mv u0 u1 iz th mb mn mpt mbg mwr mwk mlf men), (rf_RW ct 0 mb 800 b), (rf_RW ct 0 mf 958 g)] ++ ws) s.heap.size = A at hD hX ⊢
  have hA : ∀ q : Nat, s.heap.size ≤ q → A q := fun q h => by rw [← hAe]; exact Or.inr h
  have hS : va_S A s.heap s.heap [] := va_S.rf
  have hl := lv_entry ([.ref mo]) (n := 1) (Nat.le_of_ble_eq_true rfl)
  rw [lg_entry_eq]
  generalize (lg_sl ([.ref mo]) ++ List.replicate (1 - (lg_sl ([.ref mo])).length) Slot.unset).toArray = ls at hl ⊢
  have hl : lv_has ls 1 [(0, .ref mo)] := hl
  refine lv_aload_n hx hb dX11_readsAll_0 rfl (lv_at hl 0 rfl) ?_
  refine ty_ki (wr := []) (wc := ([(rf_MO mo mw ma mf m0 m1 mu mv u0 u1 iz th mb mn mpt mbg mwr mwk mlf men), (rf_RW ct 0 mb 800 b), (rf_RW ct 0 mf 958 g)] ++ ws)) (va_runV (As := []) (rest := []) ⟨hx, hb, hml, hown, hts⟩ (m_X11_readStatement l D ct S ws mo mw ma mf m0 m1 mu mv u0 u1 iz mb th mn mpt mbg mwr mwk mlf men b g _ hT hmn (by omega) hL) (cm_V 0 hts kc_X11_readStatement ki_RX11 kl_RX11_195 kv_X11_readStatement kx_X11_readStatement kd_X11_readStatement ⟨Nat.le_of_ble_eq_true rfl, Nat.le_of_ble_eq_true rfl⟩) (ty_preE (wr := []) (wc := ([(rf_MO mo mw ma mf m0 m1 mu mv u0 u1 iz th mb mn mpt mbg mwr mwk mlf men), (rf_RW ct 0 mb 800 b), (rf_RW ct 0 mf 958 g)] ++ ws)) (ci := 11) (q0 := 0) hP hK hD hS hA hX rfl rfl) rfl rfl hl.1 rfl (lv_room (Nat.le_of_ble_eq_true rfl)) dX11_readsAll_1 ⟨Nat.le_of_ble_eq_true rfl, Nat.le_of_ble_eq_true rfl⟩) hP hD hS hA (fun r_1 u H locs hw_2 hP hD hS => ?_)
  obtain ⟨ws_3, mpt1_4, mbg1_5, mwr1_6, mwk1_7, g1_8⟩ := u
  obtain ⟨hT, hp_9⟩ := hw_2
  have hp_9 : ((mpt.toInt ≤ mpt1_4.toInt ∧ mpt1_4.toInt ≤ 800) ∧ 0 ≤ mbg1_5.toInt ∧ mbg1_5.toInt ≤ 800) ∧ (r_1 = 0 ∨ (r_1 = 1 ∧ rf_L g1_8)) := hp_9
  have hP : va_P D vwCl ([(rf_MO mo mw ma mf m0 m1 mu mv u0 u1 iz th mb mn mpt1_4 mbg1_5 mwr1_6 mwk1_7 mlf men), (rf_RW ct 0 mb 800 b), (rf_RW ct 0 mf 958 g1_8)] ++ ws_3) H := hP
  have hD : va_D A ([(rf_MO mo mw ma mf m0 m1 mu mv u0 u1 iz th mb mn mpt1_4 mbg1_5 mwr1_6 mwk1_7 mlf men), (rf_RW ct 0 mb 800 b), (rf_RW ct 0 mf 958 g1_8)] ++ ws_3) := hD
  obtain ⟨hb_10, hb_12⟩ := hp_9
  rcases hb_12 with rfl | ⟨rfl, hz_13⟩
  · refine lv_if_ne (tgt := 9) hx hb dX11_readsAll_4 (by decide) (fun hc => absurd (by decide) hc) (fun _ => ?_)
    refine lv_iconst (v := 0) hx hb dX11_readsAll_7 (by decide) ?_
    exact W.zret (v := 0) hx hb hr (by decide) (fun t ht hW => ⟨⟨0, (ws_3, mpt1_4, mbg1_5, mwr1_6, mwk1_7, g1_8), rfl, ⟨hT, ⟨by omega, Or.inl rfl⟩⟩, by rw [ht]; exact hP, by rw [hAe]; exact hD⟩, hS.F ht⟩) hS.2.2 dX11_readsAll_8
  · refine lv_if_ne (tgt := 9) hx hb dX11_readsAll_4 (by decide) (fun _ => ?_) (fun hc => absurd hc (by decide))
    refine ty_loop (I := fun μ H locs ls => ∃ (ws : va_W) (y_14 : Int32) (y_15 : Int32) (y_16 : Int32) (y_17 : Int32) (g_18 : Nat → Int32), μ = (2147483648 - y_14.toInt).toNat ∧ ty_W ct S ws ∧ va_P D vwCl ([(rf_MO mo mw ma mf m0 m1 mu mv u0 u1 iz th mb mn y_14 y_15 y_16 y_17 mlf men), (rf_RW ct 0 mb 800 b), (rf_RW ct 0 mf 958 g_18)] ++ ws) H ∧ va_D A ([(rf_MO mo mw ma mf m0 m1 mu mv u0 u1 iz th mb mn y_14 y_15 y_16 y_17 mlf men), (rf_RW ct 0 mb 800 b), (rf_RW ct 0 mf 958 g_18)] ++ ws) ∧ va_S A s.heap H locs ∧ lv_has ls 1 [(0, .ref mo)] ∧ (mpt.toInt ≤ y_14.toInt ∧ y_14.toInt ≤ 800) ∧ (0 ≤ y_15.toInt ∧ y_15.toInt ≤ 800) ∧ rf_L g_18) ⟨_, ws_3, mpt1_4, mbg1_5, mwr1_6, mwk1_7, g1_8, rfl, hT, hP, hD, hS, (lv_sub hl [0] rfl), ⟨by omega, by omega, hz_13⟩⟩ (fun μ H locs ls hI ih_9 => ?_)
    obtain ⟨ws, y_14, y_15, y_16, y_17, g_18, rfl, hT, hP, hD, hS, hl, hex_9⟩ := hI
    refine lv_aload_n hx hb dX11_readsAll_9 rfl (lv_at hl 0 rfl) ?_
    have hP : va_P D vwCl ([(rf_RW ct 0 mf 958 g_18), (rf_MO mo mw ma mf m0 m1 mu mv u0 u1 iz th mb mn y_14 y_15 y_16 y_17 mlf men), (rf_RW ct 0 mb 800 b)] ++ ws) H := ty_permP hP (ty_ordp (E := [(rf_MO mo mw ma mf m0 m1 mu mv u0 u1 iz th mb mn y_14 y_15 y_16 y_17 mlf men), (rf_RW ct 0 mb 800 b), (rf_RW ct 0 mf 958 g_18)]) (E2 := [(rf_RW ct 0 mf 958 g_18), (rf_MO mo mw ma mf m0 m1 mu mv u0 u1 iz th mb mn y_14 y_15 y_16 y_17 mlf men), (rf_RW ct 0 mb 800 b)]) (n := 3) [2, 0, 1] rfl rfl (by decide))
    have hD : va_D A ([(rf_RW ct 0 mf 958 g_18), (rf_MO mo mw ma mf m0 m1 mu mv u0 u1 iz th mb mn y_14 y_15 y_16 y_17 mlf men), (rf_RW ct 0 mb 800 b)] ++ ws) := ty_permD hD (ty_ordp (E := [(rf_MO mo mw ma mf m0 m1 mu mv u0 u1 iz th mb mn y_14 y_15 y_16 y_17 mlf men), (rf_RW ct 0 mb 800 b), (rf_RW ct 0 mf 958 g_18)]) (E2 := [(rf_RW ct 0 mf 958 g_18), (rf_MO mo mw ma mf m0 m1 mu mv u0 u1 iz th mb mn y_14 y_15 y_16 y_17 mlf men), (rf_RW ct 0 mb 800 b)]) (n := 3) [2, 0, 1] rfl rfl (by decide))
    refine ty_ki (wr := [(rf_RW ct 0 mf 958 g_18)]) (wc := ([(rf_MO mo mw ma mf m0 m1 mu mv u0 u1 iz th mb mn y_14 y_15 y_16 y_17 mlf men), (rf_RW ct 0 mb 800 b)] ++ ws)) (va_runV (As := []) (rest := []) ⟨hx, hb, hml, hown, hts⟩ (m_X11_see l D ct S ws mo mw ma mf m0 m1 mu mv u0 u1 iz mb th mn y_14 y_15 y_16 y_17 mlf men b _ hT hmn (by omega)) (cm_V 0 hts kc_X11_see ki_RX11 kl_RX11_106 kv_X11_see kx_X11_see kd_X11_see ⟨Nat.le_of_ble_eq_true rfl, Nat.le_of_ble_eq_true rfl⟩) (ty_preE (wr := [(rf_RW ct 0 mf 958 g_18)]) (wc := ([(rf_MO mo mw ma mf m0 m1 mu mv u0 u1 iz th mb mn y_14 y_15 y_16 y_17 mlf men), (rf_RW ct 0 mb 800 b)] ++ ws)) (ci := 11) (q0 := 1) hP hK hD hS hA hX rfl rfl) rfl rfl hl.1 rfl (lv_room (Nat.le_of_ble_eq_true rfl)) dX11_readsAll_10 ⟨Nat.le_of_ble_eq_true rfl, Nat.le_of_ble_eq_true rfl⟩) hP hD hS hA (fun r_19 u H locs hw_20 hP hD hS => ?_)
    obtain ⟨ws_21, mbg1_22, mpt1_23⟩ := u
    obtain ⟨hT, rfl, hp_24⟩ := hw_20
    have hP : va_P D vwCl ([(rf_RW ct 0 mf 958 g_18), (rf_MO mo mw ma mf m0 m1 mu mv u0 u1 iz th mb mn mpt1_23 mbg1_22 y_16 y_17 mlf men), (rf_RW ct 0 mb 800 b)] ++ ws_21) H := hP
    have hD : va_D A ([(rf_RW ct 0 mf 958 g_18), (rf_MO mo mw ma mf m0 m1 mu mv u0 u1 iz th mb mn mpt1_23 mbg1_22 y_16 y_17 mlf men), (rf_RW ct 0 mb 800 b)] ++ ws_21) := hD
    have hs_25 : y_14.toInt ≤ mpt1_23.toInt ∧ mpt1_23.toInt ≤ 800 := hp_24.1
    have hs_26 : mbg1_22.toInt = mpt1_23.toInt := congrArg Int32.toInt hp_24.2
    refine lv_bipush (v := 59) hx hb dX11_readsAll_13 (by decide) ?_
    refine lv_icmp_ne (tgt := 37) hx hb dX11_readsAll_15 (by decide) (fun hc_27 => ?_) (fun hc_27 => ?_)
    · refine lv_aload_n hx hb dX11_readsAll_37 rfl (lv_at hl 0 rfl) ?_
      refine ty_ki (wr := [(rf_RW ct 0 mf 958 g_18)]) (wc := ([(rf_MO mo mw ma mf m0 m1 mu mv u0 u1 iz th mb mn mpt1_23 mbg1_22 y_16 y_17 mlf men), (rf_RW ct 0 mb 800 b)] ++ ws_21)) (va_runV (As := []) (rest := []) ⟨hx, hb, hml, hown, hts⟩ (m_X11_see l D ct S ws_21 mo mw ma mf m0 m1 mu mv u0 u1 iz mb th mn mpt1_23 mbg1_22 y_16 y_17 mlf men b _ hT hmn (by omega)) (cm_V 0 hts kc_X11_see ki_RX11 kl_RX11_106 kv_X11_see kx_X11_see kd_X11_see ⟨Nat.le_of_ble_eq_true rfl, Nat.le_of_ble_eq_true rfl⟩) (ty_preE (wr := [(rf_RW ct 0 mf 958 g_18)]) (wc := ([(rf_MO mo mw ma mf m0 m1 mu mv u0 u1 iz th mb mn mpt1_23 mbg1_22 y_16 y_17 mlf men), (rf_RW ct 0 mb 800 b)] ++ ws_21)) (ci := 11) (q0 := 1) hP hK hD hS hA hX rfl rfl) rfl rfl hl.1 rfl (lv_room (Nat.le_of_ble_eq_true rfl)) dX11_readsAll_38 ⟨Nat.le_of_ble_eq_true rfl, Nat.le_of_ble_eq_true rfl⟩) hP hD hS hA (fun r_28 u H locs hw_29 hP hD hS => ?_)
      obtain ⟨ws_30, mbg1_31, mpt1_32⟩ := u
      obtain ⟨hT, rfl, hp_33⟩ := hw_29
      have hP : va_P D vwCl ([(rf_RW ct 0 mf 958 g_18), (rf_MO mo mw ma mf m0 m1 mu mv u0 u1 iz th mb mn mpt1_32 mbg1_31 y_16 y_17 mlf men), (rf_RW ct 0 mb 800 b)] ++ ws_30) H := hP
      have hD : va_D A ([(rf_RW ct 0 mf 958 g_18), (rf_MO mo mw ma mf m0 m1 mu mv u0 u1 iz th mb mn mpt1_32 mbg1_31 y_16 y_17 mlf men), (rf_RW ct 0 mb 800 b)] ++ ws_30) := hD
      have hs_34 : mpt1_23.toInt ≤ mpt1_32.toInt ∧ mpt1_32.toInt ≤ 800 := hp_33.1
      have hs_35 : mbg1_31.toInt = mpt1_32.toInt := congrArg Int32.toInt hp_33.2
      refine lv_iconst (v := (-1)) hx hb dX11_readsAll_41 (by decide) ?_
      refine lv_icmp_eq (tgt := 53) hx hb dX11_readsAll_42 (by decide) (fun hc_36 => ?_) (fun hc_36 => ?_)
      · refine lv_iconst (v := 1) hx hb dX11_readsAll_53 (by decide) ?_
        refine lv_goto (tgt := 58) hx hb dX11_readsAll_54 (by decide) ?_
        have hP : va_P D vwCl ([(rf_MO mo mw ma mf m0 m1 mu mv u0 u1 iz th mb mn mpt1_32 mbg1_31 y_16 y_17 mlf men), (rf_RW ct 0 mb 800 b), (rf_RW ct 0 mf 958 g_18)] ++ ws_30) H := ty_permP hP (ty_ordp (E := [(rf_RW ct 0 mf 958 g_18), (rf_MO mo mw ma mf m0 m1 mu mv u0 u1 iz th mb mn mpt1_32 mbg1_31 y_16 y_17 mlf men), (rf_RW ct 0 mb 800 b)]) (E2 := [(rf_MO mo mw ma mf m0 m1 mu mv u0 u1 iz th mb mn mpt1_32 mbg1_31 y_16 y_17 mlf men), (rf_RW ct 0 mb 800 b), (rf_RW ct 0 mf 958 g_18)]) (n := 3) [1, 2, 0] rfl rfl (by decide))
        have hD : va_D A ([(rf_MO mo mw ma mf m0 m1 mu mv u0 u1 iz th mb mn mpt1_32 mbg1_31 y_16 y_17 mlf men), (rf_RW ct 0 mb 800 b), (rf_RW ct 0 mf 958 g_18)] ++ ws_30) := ty_permD hD (ty_ordp (E := [(rf_RW ct 0 mf 958 g_18), (rf_MO mo mw ma mf m0 m1 mu mv u0 u1 iz th mb mn mpt1_32 mbg1_31 y_16 y_17 mlf men), (rf_RW ct 0 mb 800 b)]) (E2 := [(rf_MO mo mw ma mf m0 m1 mu mv u0 u1 iz th mb mn mpt1_32 mbg1_31 y_16 y_17 mlf men), (rf_RW ct 0 mb 800 b), (rf_RW ct 0 mf 958 g_18)]) (n := 3) [1, 2, 0] rfl rfl (by decide))
        exact W.zret (v := 1) hx hb hr (by decide) (fun t ht hW => ⟨⟨1, (ws_30, mpt1_32, mbg1_31, y_16, y_17, g_18), rfl, ⟨hT, ⟨by omega, Or.inr ⟨rfl, hex_9.2.2⟩⟩⟩, by rw [ht]; exact hP, by rw [hAe]; exact hD⟩, hS.F ht⟩) hS.2.2 dX11_readsAll_58
      · refine lv_aload_n hx hb dX11_readsAll_45 rfl (lv_at hl 0 rfl) ?_
        refine lv_iconst (v := 1) hx hb dX11_readsAll_46 (by decide) ?_
        have hP : va_P D vwCl ([(rf_RW ct 0 mf 958 g_18), (rf_RW ct 0 mb 800 b), (rf_MO mo mw ma mf m0 m1 mu mv u0 u1 iz th mb mn mpt1_32 mbg1_31 y_16 y_17 mlf men)] ++ ws_30) H := ty_permP hP (ty_ordp (E := [(rf_RW ct 0 mf 958 g_18), (rf_MO mo mw ma mf m0 m1 mu mv u0 u1 iz th mb mn mpt1_32 mbg1_31 y_16 y_17 mlf men), (rf_RW ct 0 mb 800 b)]) (E2 := [(rf_RW ct 0 mf 958 g_18), (rf_RW ct 0 mb 800 b), (rf_MO mo mw ma mf m0 m1 mu mv u0 u1 iz th mb mn mpt1_32 mbg1_31 y_16 y_17 mlf men)]) (n := 3) [0, 2, 1] rfl rfl (by decide))
        have hD : va_D A ([(rf_RW ct 0 mf 958 g_18), (rf_RW ct 0 mb 800 b), (rf_MO mo mw ma mf m0 m1 mu mv u0 u1 iz th mb mn mpt1_32 mbg1_31 y_16 y_17 mlf men)] ++ ws_30) := ty_permD hD (ty_ordp (E := [(rf_RW ct 0 mf 958 g_18), (rf_MO mo mw ma mf m0 m1 mu mv u0 u1 iz th mb mn mpt1_32 mbg1_31 y_16 y_17 mlf men), (rf_RW ct 0 mb 800 b)]) (E2 := [(rf_RW ct 0 mf 958 g_18), (rf_RW ct 0 mb 800 b), (rf_MO mo mw ma mf m0 m1 mu mv u0 u1 iz th mb mn mpt1_32 mbg1_31 y_16 y_17 mlf men)]) (n := 3) [0, 2, 1] rfl rfl (by decide))
        refine ty_ki (wr := [(rf_RW ct 0 mf 958 g_18), (rf_RW ct 0 mb 800 b)]) (wc := ([(rf_MO mo mw ma mf m0 m1 mu mv u0 u1 iz th mb mn mpt1_32 mbg1_31 y_16 y_17 mlf men)] ++ ws_30)) (va_runV (As := [.int 1]) (rest := []) ⟨hx, hb, hml, hown, hts⟩ (m_X11_fails l D ct S ws_30 mo mw ma mf m0 m1 mu mv u0 u1 iz mb th mn mpt1_32 mbg1_31 y_16 y_17 mlf men (1 : Int32) _ hT) (cm_V 1 hts kc_X11_fails ki_RX11 kl_RX11_112 kv_X11_fails kx_X11_fails kd_X11_fails ⟨Nat.le_of_ble_eq_true rfl, Nat.le_of_ble_eq_true rfl⟩) (ty_preE (wr := [(rf_RW ct 0 mf 958 g_18), (rf_RW ct 0 mb 800 b)]) (wc := ([(rf_MO mo mw ma mf m0 m1 mu mv u0 u1 iz th mb mn mpt1_32 mbg1_31 y_16 y_17 mlf men)] ++ ws_30)) (ci := 11) (q0 := 2) hP hK hD hS hA hX rfl rfl) rfl rfl hl.1 rfl (lv_room (Nat.le_of_ble_eq_true rfl)) dX11_readsAll_47 ⟨Nat.le_of_ble_eq_true rfl, Nat.le_of_ble_eq_true rfl⟩) hP hD hS hA (fun r_37 u H locs hw_38 hP hD hS => ?_)
        obtain ⟨ws_39, mwr1_40, mwk1_41⟩ := u
        obtain ⟨hT, rfl⟩ := hw_38
        have hP : va_P D vwCl ([(rf_RW ct 0 mf 958 g_18), (rf_RW ct 0 mb 800 b), (rf_MO mo mw ma mf m0 m1 mu mv u0 u1 iz th mb mn mpt1_32 mbg1_31 mwr1_40 mwk1_41 mlf men)] ++ ws_39) H := hP
        have hD : va_D A ([(rf_RW ct 0 mf 958 g_18), (rf_RW ct 0 mb 800 b), (rf_MO mo mw ma mf m0 m1 mu mv u0 u1 iz th mb mn mpt1_32 mbg1_31 mwr1_40 mwk1_41 mlf men)] ++ ws_39) := hD
        refine lv_if_eq (tgt := 57) hx hb dX11_readsAll_50 (by decide) (fun _ => ?_) (fun hc => absurd (by decide) hc)
        refine lv_iconst (v := 0) hx hb dX11_readsAll_57 (by decide) ?_
        have hP : va_P D vwCl ([(rf_MO mo mw ma mf m0 m1 mu mv u0 u1 iz th mb mn mpt1_32 mbg1_31 mwr1_40 mwk1_41 mlf men), (rf_RW ct 0 mb 800 b), (rf_RW ct 0 mf 958 g_18)] ++ ws_39) H := ty_permP hP (ty_ordp (E := [(rf_RW ct 0 mf 958 g_18), (rf_RW ct 0 mb 800 b), (rf_MO mo mw ma mf m0 m1 mu mv u0 u1 iz th mb mn mpt1_32 mbg1_31 mwr1_40 mwk1_41 mlf men)]) (E2 := [(rf_MO mo mw ma mf m0 m1 mu mv u0 u1 iz th mb mn mpt1_32 mbg1_31 mwr1_40 mwk1_41 mlf men), (rf_RW ct 0 mb 800 b), (rf_RW ct 0 mf 958 g_18)]) (n := 3) [2, 1, 0] rfl rfl (by decide))
        have hD : va_D A ([(rf_MO mo mw ma mf m0 m1 mu mv u0 u1 iz th mb mn mpt1_32 mbg1_31 mwr1_40 mwk1_41 mlf men), (rf_RW ct 0 mb 800 b), (rf_RW ct 0 mf 958 g_18)] ++ ws_39) := ty_permD hD (ty_ordp (E := [(rf_RW ct 0 mf 958 g_18), (rf_RW ct 0 mb 800 b), (rf_MO mo mw ma mf m0 m1 mu mv u0 u1 iz th mb mn mpt1_32 mbg1_31 mwr1_40 mwk1_41 mlf men)]) (E2 := [(rf_MO mo mw ma mf m0 m1 mu mv u0 u1 iz th mb mn mpt1_32 mbg1_31 mwr1_40 mwk1_41 mlf men), (rf_RW ct 0 mb 800 b), (rf_RW ct 0 mf 958 g_18)]) (n := 3) [2, 1, 0] rfl rfl (by decide))
        exact W.zret (v := 0) hx hb hr (by decide) (fun t ht hW => ⟨⟨0, (ws_39, mpt1_32, mbg1_31, mwr1_40, mwk1_41, g_18), rfl, ⟨hT, ⟨by omega, Or.inl rfl⟩⟩, by rw [ht]; exact hP, by rw [hAe]; exact hD⟩, hS.F ht⟩) hS.2.2 dX11_readsAll_58
    · refine lv_aload_n hx hb dX11_readsAll_18 rfl (lv_at hl 0 rfl) ?_
      refine lv_dup hx hb dX11_readsAll_19 rfl ?_
      refine va_get (v := .int mpt1_23) (D := D) (ci := 11) (C := RX11) (T := TX11) (N := 19) hx hb hts in_X11 hown hK hP 1 rfl rfl 13 (by decide) (hts _ kl_RX11_78) (fun _ h9 => h9) rfl dX11_readsAll_20 ?_
      refine lv_iconst (v := 1) hx hb dX11_readsAll_23 (by decide) ?_
      refine lv_iadd hx hb dX11_readsAll_24 ?_
      refine va_put (v := .int (mpt1_23 + 1)) (ty := .int) (D := D) (ci := 11) (C := RX11) (T := TX11) (N := 19) hx hb hts in_X11 tyX11 tyX11_ok nmX11 hown hK hP hD hS 1 rfl rfl 13 (by decide) (hts _ kl_RX11_78) (fun _ h9 => h9) rfl (by decide +kernel) rfl rfl (Nat.le_of_ble_eq_true rfl) dX11_readsAll_25 (fun H locs hP hD hS => ?_)
      have hP : va_P D vwCl ([(rf_RW ct 0 mf 958 g_18), (rf_MO mo mw ma mf m0 m1 mu mv u0 u1 iz th mb mn (mpt1_23 + 1) mbg1_22 y_16 y_17 mlf men), (rf_RW ct 0 mb 800 b)] ++ ws_21) H := hP
      have hD : va_D A ([(rf_RW ct 0 mf 958 g_18), (rf_MO mo mw ma mf m0 m1 mu mv u0 u1 iz th mb mn (mpt1_23 + 1) mbg1_22 y_16 y_17 mlf men), (rf_RW ct 0 mb 800 b)] ++ ws_21) := hD
      refine lv_aload_n hx hb dX11_readsAll_28 rfl (lv_at hl 0 rfl) ?_
      have hP : va_P D vwCl ([(rf_MO mo mw ma mf m0 m1 mu mv u0 u1 iz th mb mn (mpt1_23 + 1) mbg1_22 y_16 y_17 mlf men), (rf_RW ct 0 mb 800 b), (rf_RW ct 0 mf 958 g_18)] ++ ws_21) H := ty_permP hP (ty_ordp (E := [(rf_RW ct 0 mf 958 g_18), (rf_MO mo mw ma mf m0 m1 mu mv u0 u1 iz th mb mn (mpt1_23 + 1) mbg1_22 y_16 y_17 mlf men), (rf_RW ct 0 mb 800 b)]) (E2 := [(rf_MO mo mw ma mf m0 m1 mu mv u0 u1 iz th mb mn (mpt1_23 + 1) mbg1_22 y_16 y_17 mlf men), (rf_RW ct 0 mb 800 b), (rf_RW ct 0 mf 958 g_18)]) (n := 3) [1, 2, 0] rfl rfl (by decide))
      have hD : va_D A ([(rf_MO mo mw ma mf m0 m1 mu mv u0 u1 iz th mb mn (mpt1_23 + 1) mbg1_22 y_16 y_17 mlf men), (rf_RW ct 0 mb 800 b), (rf_RW ct 0 mf 958 g_18)] ++ ws_21) := ty_permD hD (ty_ordp (E := [(rf_RW ct 0 mf 958 g_18), (rf_MO mo mw ma mf m0 m1 mu mv u0 u1 iz th mb mn (mpt1_23 + 1) mbg1_22 y_16 y_17 mlf men), (rf_RW ct 0 mb 800 b)]) (E2 := [(rf_MO mo mw ma mf m0 m1 mu mv u0 u1 iz th mb mn (mpt1_23 + 1) mbg1_22 y_16 y_17 mlf men), (rf_RW ct 0 mb 800 b), (rf_RW ct 0 mf 958 g_18)]) (n := 3) [1, 2, 0] rfl rfl (by decide))
      refine ty_ki (wr := []) (wc := ([(rf_MO mo mw ma mf m0 m1 mu mv u0 u1 iz th mb mn (mpt1_23 + 1) mbg1_22 y_16 y_17 mlf men), (rf_RW ct 0 mb 800 b), (rf_RW ct 0 mf 958 g_18)] ++ ws_21)) (va_runV (As := []) (rest := []) ⟨hx, hb, hml, hown, hts⟩ (m_X11_readStatement l D ct S ws_21 mo mw ma mf m0 m1 mu mv u0 u1 iz mb th mn (mpt1_23 + 1) mbg1_22 y_16 y_17 mlf men b g_18 _ hT hmn (by have := rf_btl hc_27 (by decide); have := rf_p1 (x := mpt1_23) (by omega); omega) hex_9.2.2) (cm_V 0 hts kc_X11_readStatement ki_RX11 kl_RX11_195 kv_X11_readStatement kx_X11_readStatement kd_X11_readStatement ⟨Nat.le_of_ble_eq_true rfl, Nat.le_of_ble_eq_true rfl⟩) (ty_preE (wr := []) (wc := ([(rf_MO mo mw ma mf m0 m1 mu mv u0 u1 iz th mb mn (mpt1_23 + 1) mbg1_22 y_16 y_17 mlf men), (rf_RW ct 0 mb 800 b), (rf_RW ct 0 mf 958 g_18)] ++ ws_21)) (ci := 11) (q0 := 0) hP hK hD hS hA hX rfl rfl) rfl rfl hl.1 rfl (lv_room (Nat.le_of_ble_eq_true rfl)) dX11_readsAll_29 ⟨Nat.le_of_ble_eq_true rfl, Nat.le_of_ble_eq_true rfl⟩) hP hD hS hA (fun r_42 u H locs hw_43 hP hD hS => ?_)
      obtain ⟨ws_44, mpt1_45, mbg1_46, mwr1_47, mwk1_48, g1_49⟩ := u
      obtain ⟨hT, hp_50⟩ := hw_43
      have hp_50 : (((mpt1_23 + 1).toInt ≤ mpt1_45.toInt ∧ mpt1_45.toInt ≤ 800) ∧ 0 ≤ mbg1_46.toInt ∧ mbg1_46.toInt ≤ 800) ∧ (r_42 = 0 ∨ (r_42 = 1 ∧ rf_L g1_49)) := hp_50
      have hP : va_P D vwCl ([(rf_MO mo mw ma mf m0 m1 mu mv u0 u1 iz th mb mn mpt1_45 mbg1_46 mwr1_47 mwk1_48 mlf men), (rf_RW ct 0 mb 800 b), (rf_RW ct 0 mf 958 g1_49)] ++ ws_44) H := hP
      have hD : va_D A ([(rf_MO mo mw ma mf m0 m1 mu mv u0 u1 iz th mb mn mpt1_45 mbg1_46 mwr1_47 mwk1_48 mlf men), (rf_RW ct 0 mb 800 b), (rf_RW ct 0 mf 958 g1_49)] ++ ws_44) := hD
      have hs_51 := rf_p1 (x := mpt1_23) (by omega)
      obtain ⟨hb_52, hb_54⟩ := hp_50
      rcases hb_54 with rfl | ⟨rfl, hz_55⟩
      · refine lv_if_ne (tgt := 9) hx hb dX11_readsAll_32 (by decide) (fun hc => absurd (by decide) hc) (fun _ => ?_)
        refine lv_iconst (v := 0) hx hb dX11_readsAll_35 (by decide) ?_
        exact W.zret (v := 0) hx hb hr (by decide) (fun t ht hW => ⟨⟨0, (ws_44, mpt1_45, mbg1_46, mwr1_47, mwk1_48, g1_49), rfl, ⟨hT, ⟨by omega, Or.inl rfl⟩⟩, by rw [ht]; exact hP, by rw [hAe]; exact hD⟩, hS.F ht⟩) hS.2.2 dX11_readsAll_36
      · refine lv_if_ne (tgt := 9) hx hb dX11_readsAll_32 (by decide) (fun _ => ?_) (fun hc => absurd hc (by decide))
        exact ih_9 _ _ _ _ (by have := rf_btl hc_27 (by decide); have := rf_p1 (x := mpt1_23) (by omega); omega) ⟨ws_44, mpt1_45, mbg1_46, mwr1_47, mwk1_48, g1_49, rfl, hT, hP, hD, hS, (lv_sub hl [0] rfl), ⟨by have := rf_btl hc_27 (by decide); have := rf_p1 (x := mpt1_23) (by omega); omega, by omega, hz_55⟩⟩
