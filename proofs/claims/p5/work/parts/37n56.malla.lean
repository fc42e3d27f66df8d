set_option maxRecDepth 100000 in
set_option maxHeartbeats 4000000 in
theorem m_X11_readsAll (l : Launch) (D : va_G) (ct : Nat → ClassId) (S : ty_S) (ws : va_W) (ph : va_W → Prop) (xx : Nat → Nat → Nat → Prop) (mo : Nat) (mw : Nat) (ma : Nat) (mf : Nat) (m0 : Nat) (m1 : Nat) (mu : Nat) (mv : Nat) (u0 : Nat) (u1 : Nat) (iz : Nat) (mb : Nat) (th : Int32) (mn : Int32) (mbg : Int32) (mwr : Int32) (mlf : Int32) (men : Int32) (b : Nat → Int32) (g : Nat → Int32) (sz : Nat) (hT : ty_V ct S ph ws) (hph : ty_C ph xx) (hy1 : ty_y1 xx) (hmn : 0 ≤ mn.toInt ∧ mn.toInt ≤ 800) (hL : rf_L g) (hN : rm_N [] g) (h9 : g 9 = 0) (h10 : g 10 = 0) : Met l yX11_readsAll (ws_ yX11_readsAll cX11_readsAll 1 (some .boolean)) ({ frames := 8, cells := 0, slots := 0, locals := 175 } : Room) (va_Pc [.ref mo] (cmP D ct sz ([(rf_MO mo mw ma mf m0 m1 mu mv u0 u1 iz th mb mn (0) mbg mwr (0) mlf men), (rf_RW ct 0 mb 800 b), (rf_RW ct 0 mf 958 g)] ++ ws))) (va_Qi (fun (r : Int32) (u : va_W × Int32 × Int32 × Int32 × Int32 × (Nat → Int32)) => match u with | (u9, mpt1, mbg1, mwr1, mwk1, g1) => ty_V ct S ph u9 ∧ (((0 : Int32).toInt ≤ mpt1.toInt ∧ mpt1.toInt ≤ mn.toInt) ∧ 0 ≤ mbg1.toInt ∧ mbg1.toInt ≤ mn.toInt) ∧ ((r = 0 ∧ (¬ mwk1 = 0 ∧ rp_K b mn = mwk1 ∧ rp_P b mn = mwr1)) ∨ (r = 1 ∧ mwk1 = 0 ∧ rp_K b mn = 0 ∧ rf_L g1 ∧ rp_C b mn = (g1 9).toInt ∧ g1 = rq_x b mn 802 [] 0 0 0 g))) (cmB D ([(rf_MO mo mw ma mf m0 m1 mu mv u0 u1 iz th mb mn (0) mbg mwr (0) mlf men), (rf_RW ct 0 mb 800 b), (rf_RW ct 0 mf 958 g)] ++ ws) sz (fun (u : va_W × Int32 × Int32 × Int32 × Int32 × (Nat → Int32)) => match u with | (u9, mpt1, mbg1, mwr1, mwk1, g1) => ([(rf_MO mo mw ma mf m0 m1 mu mv u0 u1 iz th mb mn mpt1 mbg1 mwr1 mwk1 mlf men), (rf_RW ct 0 mb 800 b), (rf_RW ct 0 mf 958 g1)] ++ u9))) (va_A ([(rf_MO mo mw ma mf m0 m1 mu mv u0 u1 iz th mb mn (0) mbg mwr (0) mlf men), (rf_RW ct 0 mb 800 b), (rf_RW ct 0 mf 958 g)] ++ ws) sz)) 0 0 (va_A ([(rf_MO mo mw ma mf m0 m1 mu mv u0 u1 iz th mb mn (0) mbg mwr (0) mlf men), (rf_RW ct 0 mb 800 b), (rf_RW ct 0 mf 958 g)] ++ ws) sz) := by
  refine Met.ofW (cc := cX11_readsAll) (maxL := 1) (ret := (some .boolean)) (by decide) rfl ?_
  intro p e s m args below meth c s₁ B hml hv
  obtain ⟨rfl, hsz, hP, hK, hD0, hX⟩ := hv
  have hx := B.exec
  have hb := B.bytes
  have hr := B.returns
  have hts := ws_all (atoms_spec (ws := ws_ yX11_readsAll cX11_readsAll 1 (some .boolean)) B.pre)
  have hown : s.vm.findClass RX11 = some m.cls := findClass_of_methodNamed B.named
  have hlocks := B.notSynchronized
  subst hsz
  have hD := hD0.self (sz := s.heap.size)
  generalize hAe : va_A ([(rf_MO mo mw ma mf m0 m1 mu mv u0 u1 iz th mb mn (0) mbg mwr (0) mlf men), (rf_RW ct 0 mb 800 b), (rf_RW ct 0 mf 958 g)] ++ ws) s.heap.size = A at hD hX ⊢
  have hA : ∀ q : Nat, s.heap.size ≤ q → A q := fun q h => by rw [← hAe]; exact Or.inr h
  have hS : va_S A s.heap s.heap [] := va_S.rf
  have hl := lv_entry ([.ref mo]) (n := 1) (Nat.le_of_ble_eq_true rfl)
  rw [lg_entry_eq]
  generalize (lg_sl ([.ref mo]) ++ List.replicate (1 - (lg_sl ([.ref mo])).length) Slot.unset).toArray = ls at hl ⊢
  have hl : lv_has ls 1 [(0, .ref mo)] := hl
  have hJ0 : rp_xJ b mn (rp_K b mn) (rp_P b mn) (rp_C b mn) 0 [] (g 10).toInt (g 9).toInt 0 := by rw [h10, h9]; exact rp_J0 b mn
  have hQ0 : rq_xJ b mn g 0 [] (g 10).toInt (g 9).toInt 0 g := by rw [h10, h9]; exact rq_J0
  refine lv_aload_n hx hb dX11_readsAll_0 rfl (lv_at hl 0 rfl) ?_
  obtain ⟨hP, hD⟩ := ty_ipPD (E1 := []) (E2 := [(rf_MO mo mw ma mf m0 m1 mu mv u0 u1 iz th mb mn (0) mbg mwr (0) mlf men), (rf_RW ct 0 mb 800 b), (rf_RW ct 0 mf 958 g)]) hP hD rfl ty_mva
  refine ty_Ki hP hD hS hA (va_runV (As := []) (rest := []) ⟨hx, hb, hml, hown, hts⟩ (m_X11_readStatement l D ct S ws ph xx mo mw ma mf m0 m1 mu mv u0 u1 iz mb th mn (0 : Int32) mbg mwr mlf men b g ([]) _ hT hph hy1 hmn (by have z : (0 : Int32).toInt = 0 := (by decide); omega) hL hN) (cm_V 0 hts kc_X11_readStatement ki_RX11 kl_RX11_195 kv_X11_readStatement kx_X11_readStatement kd_X11_readStatement ⟨Nat.le_of_ble_eq_true rfl, Nat.le_of_ble_eq_true rfl⟩) (ty_preE (ci := 11) (q0 := 0) hP hK hD hS hA hX rfl rfl) rfl rfl hl.1 rfl (lv_room (Nat.le_of_ble_eq_true rfl)) dX11_readsAll_1 ⟨Nat.le_of_ble_eq_true rfl, Nat.le_of_ble_eq_true rfl⟩) (fun r_1 u H locs hw_2 hP hD hS => ?_)
  obtain ⟨ws_3, mpt1_4, mbg1_5, mwr1_6, mwk1_7, g1_8⟩ := u
  obtain ⟨hT, hp_9⟩ := hw_2
  have hp_9 : (((0 : Int32).toInt ≤ mpt1_4.toInt ∧ mpt1_4.toInt ≤ mn.toInt) ∧ 0 ≤ mbg1_5.toInt ∧ mbg1_5.toInt ≤ mn.toInt) ∧ ((r_1 = 0 ∧ rm_B b mn (rp_tk b mn ([]) (g 10).toInt (g 9).toInt (rp_sk b mn (0 : Int32))) (rp_tp b mn ([]) (g 10).toInt (g 9).toInt (rp_sk b mn (0 : Int32))) mwk1_7 mwr1_6) ∨ (r_1 = 1 ∧ (rp_tk b mn ([]) (g 10).toInt (g 9).toInt (rp_sk b mn (0 : Int32))) = 0 ∧ mwk1_7 = 0 ∧ rp_sk b mn mpt1_4 = rp_sk b mn (rp_tp b mn ([]) (g 10).toInt (g 9).toInt (rp_sk b mn (0 : Int32))) ∧ rf_L g1_8 ∧ rm_N (rp_tN b mn ([]) (rp_sk b mn (0 : Int32))) g1_8 ∧ (g1_8 9).toInt = rp_tc b mn (rp_sk b mn (0 : Int32)) (g 9).toInt ∧ (g1_8 10).toInt = rp_tg b mn (rp_sk b mn (0 : Int32)) (g 10).toInt ∧ g1_8 = rq_t b mn ([]) (rp_sk b mn (0 : Int32)) g)) := hp_9
  obtain ⟨hP, hD⟩ := ty_shPD (w2 := ([(rf_MO mo mw ma mf m0 m1 mu mv u0 u1 iz th mb mn mpt1_4 mbg1_5 mwr1_6 mwk1_7 mlf men), (rf_RW ct 0 mb 800 b), (rf_RW ct 0 mf 958 g1_8)] ++ ws_3)) hP hD rfl
  obtain ⟨hb_10, hc_11⟩ := hp_9
  rcases hc_11 with ⟨rfl, hz_12⟩ | ⟨rfl, hz_13⟩
  · refine lv_if_ne (tgt := 9) hx hb dX11_readsAll_4 (by decide) (fun hc => absurd (by decide) hc) (fun _ => ?_)
    refine lv_iconst (v := 0) hx hb dX11_readsAll_7 (by decide) ?_
    exact W.zret (v := 0) hx hb hr (by decide) (fun t ht hW => ⟨⟨0, (ws_3, mpt1_4, mbg1_5, mwr1_6, mwk1_7, g1_8), rfl, ⟨hT, ⟨(by have z : (0 : Int32).toInt = 0 := (by decide); omega), Or.inl ⟨rfl, (rm_x4 (m := 0) (by decide) hJ0 hz_12)⟩⟩⟩, by rw [ht]; exact hP, by rw [hAe]; exact hD⟩, hS.F ht⟩) hS.2.2 dX11_readsAll_8
  · obtain ⟨hq_14, hq_15, hq_16, hq_17, hq_18, hq_19, hq_20, hq_21⟩ := hz_13
    subst hq_15
    refine lv_if_ne (tgt := 9) hx hb dX11_readsAll_4 (by decide) (fun _ => ?_) (fun hc => absurd hc (by decide))
    refine ty_loop (I := fun μ H locs ls => ∃ (ws : va_W) (y_22 : Int32) (y_23 : Int32) (y_24 : Int32) (g_25 : Nat → Int32), μ = (2147483648 - y_22.toInt).toNat ∧ ty_V ct S ph ws ∧ va_P D vwCl ([(rf_MO mo mw ma mf m0 m1 mu mv u0 u1 iz th mb mn y_22 y_23 y_24 (0) mlf men), (rf_RW ct 0 mb 800 b), (rf_RW ct 0 mf 958 g_25)] ++ ws) H ∧ va_D A ([(rf_MO mo mw ma mf m0 m1 mu mv u0 u1 iz th mb mn y_22 y_23 y_24 (0) mlf men), (rf_RW ct 0 mb 800 b), (rf_RW ct 0 mf 958 g_25)] ++ ws) ∧ va_S A s.heap H locs ∧ lv_has ls 1 [(0, .ref mo)] ∧ (0 ≤ y_22.toInt ∧ y_22.toInt ≤ mn.toInt) ∧ (0 ≤ y_23.toInt ∧ y_23.toInt ≤ mn.toInt) ∧ rf_L g_25 ∧ rm_X b mn g y_22 g_25) ⟨_, ws_3, mpt1_4, mbg1_5, mwr1_6, g1_8, rfl, hT, hP, hD, hS, (lv_sub hl [0] rfl), (by have z : (0 : Int32).toInt = 0 := (by decide); omega), (by omega), hq_17, (rm_x1 (m := 0) (by have z : (0 : Int32).toInt = 0 := (by decide); omega) hJ0 hq_14 hq_16 hq_18 hq_19 hq_20 hQ0 hq_21)⟩ (fun μ H locs ls hI ih_9 => ?_)
    obtain ⟨ws, y_22, y_23, y_24, g_25, rfl, hT, hP, hD, hS, hl, hex_9⟩ := hI
    refine lv_aload_n hx hb dX11_readsAll_9 rfl (lv_at hl 0 rfl) ?_
    obtain ⟨hP, hD⟩ := ty_opPD (E1 := [(rf_RW ct 0 mf 958 g_25)]) (E2 := [(rf_MO mo mw ma mf m0 m1 mu mv u0 u1 iz th mb mn y_22 y_23 y_24 (0) mlf men), (rf_RW ct 0 mb 800 b)]) (n := 3) [2, 0, 1] hP hD rfl rfl (by decide +kernel) ty_mva
    refine ty_Ki hP hD hS hA (va_runV (As := []) (rest := []) ⟨hx, hb, hml, hown, hts⟩ (m_X11_see l D ct S ws ph xx mo mw ma mf m0 m1 mu mv u0 u1 iz mb th mn y_22 y_23 y_24 (0 : Int32) mlf men b _ hT hph hy1 hmn (by omega)) (cm_V 0 hts kc_X11_see ki_RX11 kl_RX11_106 kv_X11_see kx_X11_see kd_X11_see ⟨Nat.le_of_ble_eq_true rfl, Nat.le_of_ble_eq_true rfl⟩) (ty_preE (ci := 11) (q0 := 1) hP hK hD hS hA hX rfl rfl) rfl rfl hl.1 rfl (lv_room (Nat.le_of_ble_eq_true rfl)) dX11_readsAll_10 ⟨Nat.le_of_ble_eq_true rfl, Nat.le_of_ble_eq_true rfl⟩) (fun r_26 u H locs hw_27 hP hD hS => ?_)
    obtain ⟨ws_28, rfl⟩ : ∃ z, z = u := ⟨_, rfl⟩
    obtain ⟨hT, rfl⟩ := hw_27
    obtain ⟨hP, hD⟩ := ty_shPD (w2 := ([(rf_RW ct 0 mf 958 g_25), (rf_MO mo mw ma mf m0 m1 mu mv u0 u1 iz th mb mn (rp_sk b mn y_22) (rp_sk b mn y_22) y_24 (0) mlf men), (rf_RW ct 0 mb 800 b)] ++ ws_28)) hP hD rfl
    have hs_29 := rp_sk_b (b := b) (p := y_22) hmn.2 (by omega)
    refine lv_bipush (v := 59) hx hb dX11_readsAll_13 (by decide) ?_
    refine lv_icmp_ne (tgt := 37) hx hb dX11_readsAll_15 (by decide) (fun hc_30 => ?_) (fun hc_30 => ?_)
    · refine lv_aload_n hx hb dX11_readsAll_37 rfl (lv_at hl 0 rfl) ?_
      obtain ⟨hP, hD⟩ := ty_ipPD (E1 := [(rf_RW ct 0 mf 958 g_25)]) (E2 := [(rf_MO mo mw ma mf m0 m1 mu mv u0 u1 iz th mb mn (rp_sk b mn y_22) (rp_sk b mn y_22) y_24 (0) mlf men), (rf_RW ct 0 mb 800 b)]) hP hD rfl ty_mva
      refine ty_Ki hP hD hS hA (va_runV (As := []) (rest := []) ⟨hx, hb, hml, hown, hts⟩ (m_X11_see l D ct S ws_28 ph xx mo mw ma mf m0 m1 mu mv u0 u1 iz mb th mn (rp_sk b mn y_22) (rp_sk b mn y_22) y_24 (0 : Int32) mlf men b _ hT hph hy1 hmn (by omega)) (cm_V 0 hts kc_X11_see ki_RX11 kl_RX11_106 kv_X11_see kx_X11_see kd_X11_see ⟨Nat.le_of_ble_eq_true rfl, Nat.le_of_ble_eq_true rfl⟩) (ty_preE (ci := 11) (q0 := 1) hP hK hD hS hA hX rfl rfl) rfl rfl hl.1 rfl (lv_room (Nat.le_of_ble_eq_true rfl)) dX11_readsAll_38 ⟨Nat.le_of_ble_eq_true rfl, Nat.le_of_ble_eq_true rfl⟩) (fun r_31 u H locs hw_32 hP hD hS => ?_)
      obtain ⟨ws_33, rfl⟩ : ∃ z, z = u := ⟨_, rfl⟩
      obtain ⟨hT, rfl⟩ := hw_32
      obtain ⟨hP, hD⟩ := ty_shPD (w2 := ([(rf_RW ct 0 mf 958 g_25), (rf_MO mo mw ma mf m0 m1 mu mv u0 u1 iz th mb mn (rp_sk b mn (rp_sk b mn y_22)) (rp_sk b mn (rp_sk b mn y_22)) y_24 (0) mlf men), (rf_RW ct 0 mb 800 b)] ++ ws_33)) hP hD rfl
      have hs_34 := rp_sk_b (b := b) (p := (rp_sk b mn y_22)) hmn.2 (by omega)
      have ess_35 := rp_sk_sk (b := b) (p := y_22) hmn.2 (by omega)
      refine lv_iconst (v := (-1)) hx hb dX11_readsAll_41 (by decide) ?_
      refine lv_icmp_eq (tgt := 53) hx hb dX11_readsAll_42 (by decide) (fun hc_36 => ?_) (fun hc_36 => ?_)
      · refine lv_iconst (v := 1) hx hb dX11_readsAll_53 (by decide) ?_
        refine lv_goto (tgt := 58) hx hb dX11_readsAll_54 (by decide) ?_
        obtain ⟨hP, hD⟩ := ty_ordPD (E2 := [(rf_MO mo mw ma mf m0 m1 mu mv u0 u1 iz th mb mn (rp_sk b mn (rp_sk b mn y_22)) (rp_sk b mn (rp_sk b mn y_22)) y_24 (0) mlf men), (rf_RW ct 0 mb 800 b), (rf_RW ct 0 mf 958 g_25)]) (n := 3) [1, 2, 0] hP hD rfl rfl (by decide +kernel)
        exact W.zret (v := 1) hx hb hr (by decide) (fun t ht hW => ⟨⟨1, (ws_33, (rp_sk b mn (rp_sk b mn y_22)), (rp_sk b mn (rp_sk b mn y_22)), y_24, (0 : Int32), g_25), rfl, ⟨hT, ⟨(by have z : (0 : Int32).toInt = 0 := (by decide); omega), Or.inr ⟨rfl, rfl, ((rm_x3 hex_9.2.2.2 hmn.2 hc_30).1 (by rw [ess_35] at hc_36; exact hc_36)).1, hex_9.2.2.1, ((rm_x3 hex_9.2.2.2 hmn.2 hc_30).1 (by rw [ess_35] at hc_36; exact hc_36)).2.1, ((rm_x3 hex_9.2.2.2 hmn.2 hc_30).1 (by rw [ess_35] at hc_36; exact hc_36)).2.2.symm⟩⟩⟩, by rw [ht]; exact hP, by rw [hAe]; exact hD⟩, hS.F ht⟩) hS.2.2 dX11_readsAll_58
      · refine lv_aload_n hx hb dX11_readsAll_45 rfl (lv_at hl 0 rfl) ?_
        refine lv_iconst (v := 1) hx hb dX11_readsAll_46 (by decide) ?_
        obtain ⟨hP, hD⟩ := ty_opPD (E1 := [(rf_RW ct 0 mf 958 g_25), (rf_RW ct 0 mb 800 b)]) (E2 := [(rf_MO mo mw ma mf m0 m1 mu mv u0 u1 iz th mb mn (rp_sk b mn (rp_sk b mn y_22)) (rp_sk b mn (rp_sk b mn y_22)) y_24 (0) mlf men)]) (n := 3) [0, 2, 1] hP hD rfl rfl (by decide +kernel) ty_mva
        refine ty_Ki hP hD hS hA (va_runV (As := [.int 1]) (rest := []) ⟨hx, hb, hml, hown, hts⟩ (m_X11_fails l D ct S ws_33 ph xx mo mw ma mf m0 m1 mu mv u0 u1 iz mb th mn (rp_sk b mn (rp_sk b mn y_22)) (rp_sk b mn (rp_sk b mn y_22)) y_24 mlf men (1 : Int32) _ hT hph hy1) (cm_V 1 hts kc_X11_fails ki_RX11 kl_RX11_112 kv_X11_fails kx_X11_fails kd_X11_fails ⟨Nat.le_of_ble_eq_true rfl, Nat.le_of_ble_eq_true rfl⟩) (ty_preE (ci := 11) (q0 := 2) hP hK hD hS hA hX rfl rfl) rfl rfl hl.1 rfl (lv_room (Nat.le_of_ble_eq_true rfl)) dX11_readsAll_47 ⟨Nat.le_of_ble_eq_true rfl, Nat.le_of_ble_eq_true rfl⟩) (fun r_37 u H locs hw_38 hP hD hS => ?_)
        obtain ⟨ws_39, rfl⟩ : ∃ z, z = u := ⟨_, rfl⟩
        obtain ⟨hT, rfl⟩ := hw_38
        obtain ⟨hP, hD⟩ := ty_shPD (w2 := ([(rf_RW ct 0 mf 958 g_25), (rf_RW ct 0 mb 800 b), (rf_MO mo mw ma mf m0 m1 mu mv u0 u1 iz th mb mn (rp_sk b mn (rp_sk b mn y_22)) (rp_sk b mn (rp_sk b mn y_22)) (rp_sk b mn (rp_sk b mn y_22)) (1) mlf men)] ++ ws_39)) hP hD rfl
        refine lv_if_eq (tgt := 57) hx hb dX11_readsAll_50 (by decide) (fun _ => ?_) (fun hc => absurd (by decide) hc)
        refine lv_iconst (v := 0) hx hb dX11_readsAll_57 (by decide) ?_
        obtain ⟨hP, hD⟩ := ty_ordPD (E2 := [(rf_MO mo mw ma mf m0 m1 mu mv u0 u1 iz th mb mn (rp_sk b mn (rp_sk b mn y_22)) (rp_sk b mn (rp_sk b mn y_22)) (rp_sk b mn (rp_sk b mn y_22)) (1) mlf men), (rf_RW ct 0 mb 800 b), (rf_RW ct 0 mf 958 g_25)]) (n := 3) [2, 1, 0] hP hD rfl rfl (by decide +kernel)
        exact W.zret (v := 0) hx hb hr (by decide) (fun t ht hW => ⟨⟨0, (ws_39, (rp_sk b mn (rp_sk b mn y_22)), (rp_sk b mn (rp_sk b mn y_22)), (rp_sk b mn (rp_sk b mn y_22)), (1 : Int32), g_25), rfl, ⟨hT, ⟨(by have z : (0 : Int32).toInt = 0 := (by decide); omega), Or.inl ⟨rfl, (by have x := (rm_x3 hex_9.2.2.2 hmn.2 hc_30).2 (by rw [ess_35] at hc_36; exact hc_36); exact ⟨(by decide), x.1, x.2.trans ess_35.symm⟩)⟩⟩⟩, by rw [ht]; exact hP, by rw [hAe]; exact hD⟩, hS.F ht⟩) hS.2.2 dX11_readsAll_58
    · refine lv_aload_n hx hb dX11_readsAll_18 rfl (lv_at hl 0 rfl) ?_
      refine lv_dup hx hb dX11_readsAll_19 rfl ?_
      refine va_get (v := .int (rp_sk b mn y_22)) (D := D) (ci := 11) (C := RX11) (T := TX11) (N := 19) hx hb hts in_X11 hown hK hP 1 rfl rfl 13 (by decide) (hts _ kl_RX11_78) (fun _ h9 => h9) rfl dX11_readsAll_20 ?_
      refine lv_iconst (v := 1) hx hb dX11_readsAll_23 (by decide) ?_
      refine lv_iadd hx hb dX11_readsAll_24 ?_
      refine va_put (v := .int ((rp_sk b mn y_22) + 1)) (ty := .int) (D := D) (ci := 11) (C := RX11) (T := TX11) (N := 19) hx hb hts in_X11 tyX11 tyX11_ok nmX11 hown hK hP hD hS 1 rfl rfl 13 (by decide) (hts _ kl_RX11_78) (fun _ h9 => h9) rfl (by decide +kernel) rfl rfl (Nat.le_of_ble_eq_true rfl) dX11_readsAll_25 (fun H locs hP hD hS => ?_)
      have hP : va_P D vwCl ([(rf_RW ct 0 mf 958 g_25), (rf_MO mo mw ma mf m0 m1 mu mv u0 u1 iz th mb mn ((rp_sk b mn y_22) + 1) (rp_sk b mn y_22) y_24 (0) mlf men), (rf_RW ct 0 mb 800 b)] ++ ws_28) H := hP
      have hD : va_D A ([(rf_RW ct 0 mf 958 g_25), (rf_MO mo mw ma mf m0 m1 mu mv u0 u1 iz th mb mn ((rp_sk b mn y_22) + 1) (rp_sk b mn y_22) y_24 (0) mlf men), (rf_RW ct 0 mb 800 b)] ++ ws_28) := hD
      obtain ⟨m_40, N_41, hb_42, hJ_43, hN_44, hQ_45⟩ := rm_x2 hex_9.2.2.2 hmn.2 hc_30
      refine lv_aload_n hx hb dX11_readsAll_28 rfl (lv_at hl 0 rfl) ?_
      obtain ⟨hP, hD⟩ := ty_opPD (E1 := []) (E2 := [(rf_MO mo mw ma mf m0 m1 mu mv u0 u1 iz th mb mn ((rp_sk b mn y_22) + 1) (rp_sk b mn y_22) y_24 (0) mlf men), (rf_RW ct 0 mb 800 b), (rf_RW ct 0 mf 958 g_25)]) (n := 3) [1, 2, 0] hP hD rfl rfl (by decide +kernel) ty_mva
      refine ty_Ki hP hD hS hA (va_runV (As := []) (rest := []) ⟨hx, hb, hml, hown, hts⟩ (m_X11_readStatement l D ct S ws_28 ph xx mo mw ma mf m0 m1 mu mv u0 u1 iz mb th mn ((rp_sk b mn y_22) + 1) (rp_sk b mn y_22) y_24 mlf men b g_25 N_41 _ hT hph hy1 hmn (by omega) hex_9.2.2.1 hN_44) (cm_V 0 hts kc_X11_readStatement ki_RX11 kl_RX11_195 kv_X11_readStatement kx_X11_readStatement kd_X11_readStatement ⟨Nat.le_of_ble_eq_true rfl, Nat.le_of_ble_eq_true rfl⟩) (ty_preE (ci := 11) (q0 := 0) hP hK hD hS hA hX rfl rfl) rfl rfl hl.1 rfl (lv_room (Nat.le_of_ble_eq_true rfl)) dX11_readsAll_29 ⟨Nat.le_of_ble_eq_true rfl, Nat.le_of_ble_eq_true rfl⟩) (fun r_46 u H locs hw_47 hP hD hS => ?_)
      obtain ⟨ws_48, mpt1_49, mbg1_50, mwr1_51, mwk1_52, g1_53⟩ := u
      obtain ⟨hT, hp_54⟩ := hw_47
      have hp_54 : ((((rp_sk b mn y_22) + 1).toInt ≤ mpt1_49.toInt ∧ mpt1_49.toInt ≤ mn.toInt) ∧ 0 ≤ mbg1_50.toInt ∧ mbg1_50.toInt ≤ mn.toInt) ∧ ((r_46 = 0 ∧ rm_B b mn (rp_tk b mn N_41 (g_25 10).toInt (g_25 9).toInt (rp_sk b mn ((rp_sk b mn y_22) + 1))) (rp_tp b mn N_41 (g_25 10).toInt (g_25 9).toInt (rp_sk b mn ((rp_sk b mn y_22) + 1))) mwk1_52 mwr1_51) ∨ (r_46 = 1 ∧ (rp_tk b mn N_41 (g_25 10).toInt (g_25 9).toInt (rp_sk b mn ((rp_sk b mn y_22) + 1))) = 0 ∧ mwk1_52 = 0 ∧ rp_sk b mn mpt1_49 = rp_sk b mn (rp_tp b mn N_41 (g_25 10).toInt (g_25 9).toInt (rp_sk b mn ((rp_sk b mn y_22) + 1))) ∧ rf_L g1_53 ∧ rm_N (rp_tN b mn N_41 (rp_sk b mn ((rp_sk b mn y_22) + 1))) g1_53 ∧ (g1_53 9).toInt = rp_tc b mn (rp_sk b mn ((rp_sk b mn y_22) + 1)) (g_25 9).toInt ∧ (g1_53 10).toInt = rp_tg b mn (rp_sk b mn ((rp_sk b mn y_22) + 1)) (g_25 10).toInt ∧ g1_53 = rq_t b mn N_41 (rp_sk b mn ((rp_sk b mn y_22) + 1)) g_25)) := hp_54
      obtain ⟨hP, hD⟩ := ty_shPD (w2 := ([(rf_MO mo mw ma mf m0 m1 mu mv u0 u1 iz th mb mn mpt1_49 mbg1_50 mwr1_51 mwk1_52 mlf men), (rf_RW ct 0 mb 800 b), (rf_RW ct 0 mf 958 g1_53)] ++ ws_48)) hP hD rfl
      obtain ⟨hb_55, hc_56⟩ := hp_54
      rcases hc_56 with ⟨rfl, hz_57⟩ | ⟨rfl, hz_58⟩
      · refine lv_if_ne (tgt := 9) hx hb dX11_readsAll_32 (by decide) (fun hc => absurd (by decide) hc) (fun _ => ?_)
        refine lv_iconst (v := 0) hx hb dX11_readsAll_35 (by decide) ?_
        exact W.zret (v := 0) hx hb hr (by decide) (fun t ht hW => ⟨⟨0, (ws_48, mpt1_49, mbg1_50, mwr1_51, mwk1_52, g1_53), rfl, ⟨hT, ⟨(by have z : (0 : Int32).toInt = 0 := (by decide); omega), Or.inl ⟨rfl, (rm_x4 (by omega) hJ_43 hz_57)⟩⟩⟩, by rw [ht]; exact hP, by rw [hAe]; exact hD⟩, hS.F ht⟩) hS.2.2 dX11_readsAll_36
      · obtain ⟨hq_59, hq_60, hq_61, hq_62, hq_63, hq_64, hq_65, hq_66⟩ := hz_58
        subst hq_60
        refine lv_if_ne (tgt := 9) hx hb dX11_readsAll_32 (by decide) (fun _ => ?_) (fun hc => absurd hc (by decide))
        exact ih_9 _ _ _ _ (by have := rf_btl hc_30 (by decide); have := rf_p1 (x := rp_sk b mn y_22) (by omega); omega) ⟨ws_48, mpt1_49, mbg1_50, mwr1_51, g1_53, rfl, hT, hP, hD, hS, (lv_sub hl [0] rfl), (by omega), (by omega), hq_62, (rm_x1 hb_42 hJ_43 hq_59 hq_61 hq_63 hq_64 hq_65 hQ_45 hq_66)⟩
