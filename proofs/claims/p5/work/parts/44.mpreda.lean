def q_X11_until (men : Int32) (f : Nat → Int32) (G : Nat → Int32) (su : Nat → Int64) (p1 : Int32) (p2 : Int32) (r : Int32) (men1 : Int32) (f1 : Nat → Int32) (su1 : Nat → Int64) : Prop := (∃ (y_1 : Int32) (y_2 : Int32) (f_3 : Nat → Int32) (g_4 : Nat → Int64), ((0 ≤ y_1.toInt ∧ y_1.toInt ≤ 30000) ∧ q_ch G p1 (fun _ g => rf_of g p1 0 = 1) y_1.toInt.toNat men f su y_2 f_3 g_4) ∧ ((¬ rf_of f_3 p1 0 = (1 : Int32) ∧ ((¬ rf_of f_3 p1 0 = p2 ∧ (r = (-1) ∧ men1 = y_2 ∧ f1 = f_3 ∧ su1 = g_4)) ∨ (rf_of f_3 p1 0 = p2 ∧ (r = y_1 ∧ men1 = y_2 ∧ f1 = f_3 ∧ su1 = g_4)))) ∨ (rf_of f_3 p1 0 = (1 : Int32) ∧ ((30000 : Int32) ≤ y_1 ∧ ((¬ rf_of f_3 p1 0 = p2 ∧ (r = (-1) ∧ men1 = y_2 ∧ f1 = f_3 ∧ su1 = g_4)) ∨ (rf_of f_3 p1 0 = p2 ∧ (r = y_1 ∧ men1 = y_2 ∧ f1 = f_3 ∧ su1 = g_4)))))))
set_option maxRecDepth 100000 in
set_option maxHeartbeats 4000000 in
theorem m_X11_until (l : Launch) (D : va_G) (ct : Nat → ClassId) (S : ty_S) (ws : va_W) (ph : va_W → Prop) (xx : Nat → Nat → Nat → Prop) (mo : Nat) (mw : Nat) (ma : Nat) (mf : Nat) (m0 : Nat) (m1 : Nat) (mu : Nat) (mv : Nat) (u0 : Nat) (u1 : Nat) (iz : Nat) (mb : Nat) (th : Int32) (mn : Int32) (mpt : Int32) (mbg : Int32) (mwr : Int32) (mwk : Int32) (mlf : Int32) (men : Int32) (f : Nat → Int32) (G : Nat → Int32) (su : Nat → Int64) (p1 : Int32) (p2 : Int32) (sz : Nat) (hT : ty_V ct S ph ws) (hph : ty_C ph xx) (hy1 : ty_y1 xx) (hy11 : ty_y0 xx 11) (hR : rf_R G (-1) f) (hc : 0 ≤ p1.toInt ∧ p1.toInt < (G 9).toInt) : Met l yX11_until (ws_ yX11_until cX11_until 4 (some .int)) ({ frames := 8, cells := 0, slots := 0, locals := 186 } : Room) (va_Pc [.ref mo, .int p1, .int p2] (cmP D ct sz ([(rf_MO mo mw ma mf m0 m1 mu mv u0 u1 iz th mb mn mpt mbg mwr mwk mlf men), (rf_RW ct 0 mw 958 f), (mu, .inl (ct 1, 42, .inr (.inl su)))] ++ ws))) (va_Qi (fun (r : Int32) (u : va_W × Int32 × (Nat → Int32) × (Nat → Int64)) => match u with | (u9, men1, f1, su1) => ty_V ct S ph u9 ∧ (q_X11_until men f G su p1 p2 r men1 f1 su1) ∧ rf_R G (-1) f1) (cmB D ([(rf_MO mo mw ma mf m0 m1 mu mv u0 u1 iz th mb mn mpt mbg mwr mwk mlf men), (rf_RW ct 0 mw 958 f), (mu, .inl (ct 1, 42, .inr (.inl su)))] ++ ws) sz (fun (u : va_W × Int32 × (Nat → Int32) × (Nat → Int64)) => match u with | (u9, men1, f1, su1) => ([(rf_MO mo mw ma mf m0 m1 mu mv u0 u1 iz th mb mn mpt mbg mwr mwk mlf men1), (rf_RW ct 0 mw 958 f1), (mu, .inl (ct 1, 42, .inr (.inl su1)))] ++ u9))) (va_A ([(rf_MO mo mw ma mf m0 m1 mu mv u0 u1 iz th mb mn mpt mbg mwr mwk mlf men), (rf_RW ct 0 mw 958 f), (mu, .inl (ct 1, 42, .inr (.inl su)))] ++ ws) sz)) 0 0 (va_A ([(rf_MO mo mw ma mf m0 m1 mu mv u0 u1 iz th mb mn mpt mbg mwr mwk mlf men), (rf_RW ct 0 mw 958 f), (mu, .inl (ct 1, 42, .inr (.inl su)))] ++ ws) sz) := by
  refine Met.ofW (cc := cX11_until) (maxL := 4) (ret := (some .int)) (by decide) rfl ?_
  intro p e s m args below meth c s₁ B hml hv
  obtain ⟨rfl, hsz, hP, hK, hD0, hX⟩ := hv
  have hx := B.exec
  have hb := B.bytes
  have hr := B.returns
  have hts := ws_all (atoms_spec (ws := ws_ yX11_until cX11_until 4 (some .int)) B.pre)
  have hown : s.vm.findClass RX11 = some m.cls := findClass_of_methodNamed B.named
  have hlocks := B.notSynchronized
  subst hsz
  have hD := hD0.self (sz := s.heap.size)
  generalize hAe : va_A ([(rf_MO mo mw ma mf m0 m1 mu mv u0 u1 iz th mb mn mpt mbg mwr mwk mlf men), (rf_RW ct 0 mw 958 f), (mu, .inl (ct 1, 42, .inr (.inl su)))] ++ ws) s.heap.size = A at hD hX ⊢
  have hA : ∀ q : Nat, s.heap.size ≤ q → A q := fun q h => by rw [← hAe]; exact Or.inr h
  have hS : va_S A s.heap s.heap [] := va_S.rf
  have hl := lv_entry ([.ref mo, .int p1, .int p2]) (n := 4) (Nat.le_of_ble_eq_true rfl)
  rw [lg_entry_eq]
  generalize (lg_sl ([.ref mo, .int p1, .int p2]) ++ List.replicate (4 - (lg_sl ([.ref mo, .int p1, .int p2])).length) Slot.unset).toArray = ls at hl ⊢
  have hl : lv_has ls 4 [(0, .ref mo), (1, .int p1), (2, .int p2)] := hl
  refine lv_iconst (v := 0) hx hb dX11_until_0 (by decide) ?_
  refine lv_istore_n (lv' := [(3, .int 0), (0, .ref mo), (1, .int p1), (2, .int p2)]) hx hb dX11_until_1 rfl hl (by decide) rfl (fun ls hl => ?_)
  refine ty_loop (I := fun μ H locs ls => ∃ (ws : va_W) (y_1 : Int32) (y_2 : Int32) (f_3 : Nat → Int32) (g_4 : Nat → Int64), μ = (2147483648 - y_1.toInt).toNat ∧ ty_V ct S ph ws ∧ va_P D vwCl ([(rf_MO mo mw ma mf m0 m1 mu mv u0 u1 iz th mb mn mpt mbg mwr mwk mlf y_2), (rf_RW ct 0 mw 958 f_3), (mu, .inl (ct 1, 42, .inr (.inl g_4)))] ++ ws) H ∧ va_D A ([(rf_MO mo mw ma mf m0 m1 mu mv u0 u1 iz th mb mn mpt mbg mwr mwk mlf y_2), (rf_RW ct 0 mw 958 f_3), (mu, .inl (ct 1, 42, .inr (.inl g_4)))] ++ ws) ∧ va_S A s.heap H locs ∧ lv_has ls 4 [(0, .ref mo), (1, .int p1), (2, .int p2), (3, .int y_1)] ∧ rf_R G (-1) f_3 ∧ (0 ≤ y_1.toInt ∧ y_1.toInt ≤ 30000) ∧ q_ch G p1 (fun _ g => rf_of g p1 0 = 1) y_1.toInt.toNat men f su y_2 f_3 g_4) ⟨_, ws, (0 : Int32), men, f, su, rfl, hT, hP, hD, hS, (lv_sub hl [1, 2, 3, 0] rfl), hR, ⟨⟨by decide, by decide⟩, q_ch0⟩⟩ (fun μ H locs ls hI ih_2 => ?_)
  obtain ⟨ws, y_1, y_2, f_3, g_4, rfl, hT, hP, hD, hS, hl, hR_2, hex_2⟩ := hI
  refine lv_aload_n hx hb dX11_until_2 rfl (lv_at hl 0 rfl) ?_
  refine lv_iload_n hx hb dX11_until_3 rfl (lv_at hl 1 rfl) ?_
  refine lv_iconst (v := 1) hx hb dX11_until_4 (by decide) ?_
  obtain ⟨hP, hD⟩ := ty_opPD (E1 := [(mu, .inl (ct 1, 42, .inr (.inl g_4)))]) (E2 := [(rf_MO mo mw ma mf m0 m1 mu mv u0 u1 iz th mb mn mpt mbg mwr mwk mlf y_2), (rf_RW ct 0 mw 958 f_3)]) (n := 3) [2, 0, 1] hP hD rfl rfl (by decide +kernel) ty_mva
  refine ty_Ki hP hD hS hA (va_runV (As := [.int p1, .int 1]) (rest := []) ⟨hx, hb, hml, hown, hts⟩ (m_X11_isIn l D ct S ws ph xx mo mw ma mf m0 m1 mu mv u0 u1 iz mb th mn mpt mbg mwr mwk mlf y_2 f_3 G (-1) p1 (1 : Int32) _ hT hph hy1 hR_2 hc) (cm_V 2 hts kc_X11_isIn ki_RX11 kl_RX11_350 kv_X11_isIn kx_X11_isIn kd_X11_isIn ⟨Nat.le_of_ble_eq_true rfl, Nat.le_of_ble_eq_true rfl⟩) (ty_preE (ci := 11) (q0 := 1) hP hK hD hS hA hX rfl rfl) rfl rfl hl.1 rfl (lv_room (Nat.le_of_ble_eq_true rfl)) dX11_until_5 ⟨Nat.le_of_ble_eq_true rfl, Nat.le_of_ble_eq_true rfl⟩) (fun r_5 u H locs hw_6 hP hD hS => ?_)
  obtain ⟨ws_7, rfl⟩ : ∃ z, z = u := ⟨_, rfl⟩
  obtain ⟨hT, hp_8⟩ := hw_6
  have hp_8 : ((r_5 = 0 ∧ ¬ rf_of f_3 p1 0 = (1 : Int32)) ∨ (r_5 = 1 ∧ rf_of f_3 p1 0 = (1 : Int32))) := hp_8
  obtain ⟨hP, hD⟩ := ty_shPD (w2 := ([(mu, .inl (ct 1, 42, .inr (.inl g_4))), (rf_MO mo mw ma mf m0 m1 mu mv u0 u1 iz th mb mn mpt mbg mwr mwk mlf y_2), (rf_RW ct 0 mw 958 f_3)] ++ ws_7)) hP hD rfl
  rcases hp_8 with ⟨rfl, hz_9⟩ | ⟨rfl, hz_10⟩
  · refine lv_if_eq (tgt := 29) hx hb dX11_until_8 (by decide) (fun _ => ?_) (fun hc => absurd (by decide) hc)
    refine lv_aload_n hx hb dX11_until_29 rfl (lv_at hl 0 rfl) ?_
    refine lv_iload_n hx hb dX11_until_30 rfl (lv_at hl 1 rfl) ?_
    refine lv_iload_n hx hb dX11_until_31 rfl (lv_at hl 2 rfl) ?_
    obtain ⟨hP, hD⟩ := ty_ipPD (E1 := [(mu, .inl (ct 1, 42, .inr (.inl g_4)))]) (E2 := [(rf_MO mo mw ma mf m0 m1 mu mv u0 u1 iz th mb mn mpt mbg mwr mwk mlf y_2), (rf_RW ct 0 mw 958 f_3)]) hP hD rfl ty_mva
    refine ty_Ki hP hD hS hA (va_runV (As := [.int p1, .int p2]) (rest := []) ⟨hx, hb, hml, hown, hts⟩ (m_X11_isIn l D ct S ws_7 ph xx mo mw ma mf m0 m1 mu mv u0 u1 iz mb th mn mpt mbg mwr mwk mlf y_2 f_3 G (-1) p1 p2 _ hT hph hy1 hR_2 hc) (cm_V 2 hts kc_X11_isIn ki_RX11 kl_RX11_350 kv_X11_isIn kx_X11_isIn kd_X11_isIn ⟨Nat.le_of_ble_eq_true rfl, Nat.le_of_ble_eq_true rfl⟩) (ty_preE (ci := 11) (q0 := 1) hP hK hD hS hA hX rfl rfl) rfl rfl hl.1 rfl (lv_room (Nat.le_of_ble_eq_true rfl)) dX11_until_32 ⟨Nat.le_of_ble_eq_true rfl, Nat.le_of_ble_eq_true rfl⟩) (fun r_11 u H locs hw_12 hP hD hS => ?_)
    obtain ⟨ws_13, rfl⟩ : ∃ z, z = u := ⟨_, rfl⟩
    obtain ⟨hT, hp_14⟩ := hw_12
    have hp_14 : ((r_11 = 0 ∧ ¬ rf_of f_3 p1 0 = p2) ∨ (r_11 = 1 ∧ rf_of f_3 p1 0 = p2)) := hp_14
    obtain ⟨hP, hD⟩ := ty_shPD (w2 := ([(mu, .inl (ct 1, 42, .inr (.inl g_4))), (rf_MO mo mw ma mf m0 m1 mu mv u0 u1 iz th mb mn mpt mbg mwr mwk mlf y_2), (rf_RW ct 0 mw 958 f_3)] ++ ws_13)) hP hD rfl
    rcases hp_14 with ⟨rfl, hz_15⟩ | ⟨rfl, hz_16⟩
    · refine lv_if_eq (tgt := 42) hx hb dX11_until_35 (by decide) (fun _ => ?_) (fun hc => absurd (by decide) hc)
      refine lv_iconst (v := (-1)) hx hb dX11_until_42 (by decide) ?_
      obtain ⟨hP, hD⟩ := ty_ordPD (E2 := [(rf_MO mo mw ma mf m0 m1 mu mv u0 u1 iz th mb mn mpt mbg mwr mwk mlf y_2), (rf_RW ct 0 mw 958 f_3), (mu, .inl (ct 1, 42, .inr (.inl g_4)))]) (n := 3) [1, 2, 0] hP hD rfl rfl (by decide +kernel)
      exact W.iret (v := (-1)) hx hb hr (fun t ht hW => ⟨⟨(-1), (ws_13, y_2, f_3, g_4), rfl, ⟨hT, ⟨⟨y_1, y_2, f_3, g_4, hex_2, (Or.inl ⟨hz_9, (Or.inl ⟨hz_15, ⟨rfl, rfl, rfl, rfl⟩⟩)⟩)⟩, hR_2⟩⟩, by rw [ht]; exact hP, by rw [hAe]; exact hD⟩, hS.F ht⟩) hS.2.2 dX11_until_43
    · refine lv_if_eq (tgt := 42) hx hb dX11_until_35 (by decide) (fun hc => absurd hc (by decide)) (fun _ => ?_)
      refine lv_iload_n hx hb dX11_until_38 rfl (lv_at hl 3 rfl) ?_
      refine lv_goto (tgt := 43) hx hb dX11_until_39 (by decide) ?_
      obtain ⟨hP, hD⟩ := ty_ordPD (E2 := [(rf_MO mo mw ma mf m0 m1 mu mv u0 u1 iz th mb mn mpt mbg mwr mwk mlf y_2), (rf_RW ct 0 mw 958 f_3), (mu, .inl (ct 1, 42, .inr (.inl g_4)))]) (n := 3) [1, 2, 0] hP hD rfl rfl (by decide +kernel)
      exact W.iret (v := y_1) hx hb hr (fun t ht hW => ⟨⟨y_1, (ws_13, y_2, f_3, g_4), rfl, ⟨hT, ⟨⟨y_1, y_2, f_3, g_4, hex_2, (Or.inl ⟨hz_9, (Or.inr ⟨hz_16, ⟨rfl, rfl, rfl, rfl⟩⟩)⟩)⟩, hR_2⟩⟩, by rw [ht]; exact hP, by rw [hAe]; exact hD⟩, hS.F ht⟩) hS.2.2 dX11_until_43
  · refine lv_if_eq (tgt := 29) hx hb dX11_until_8 (by decide) (fun hc => absurd hc (by decide)) (fun _ => ?_)
    refine lv_iload_n hx hb dX11_until_11 rfl (lv_at hl 3 rfl) ?_
    refine lv_sipush (v := 30000) hx hb dX11_until_12 (by decide) ?_
    refine lv_icmp_ge (tgt := 29) hx hb dX11_until_15 (by decide) (fun hc_17 => ?_) (fun hc_17 => ?_)
    · refine lv_aload_n hx hb dX11_until_29 rfl (lv_at hl 0 rfl) ?_
      refine lv_iload_n hx hb dX11_until_30 rfl (lv_at hl 1 rfl) ?_
      refine lv_iload_n hx hb dX11_until_31 rfl (lv_at hl 2 rfl) ?_
      obtain ⟨hP, hD⟩ := ty_ipPD (E1 := [(mu, .inl (ct 1, 42, .inr (.inl g_4)))]) (E2 := [(rf_MO mo mw ma mf m0 m1 mu mv u0 u1 iz th mb mn mpt mbg mwr mwk mlf y_2), (rf_RW ct 0 mw 958 f_3)]) hP hD rfl ty_mva
      refine ty_Ki hP hD hS hA (va_runV (As := [.int p1, .int p2]) (rest := []) ⟨hx, hb, hml, hown, hts⟩ (m_X11_isIn l D ct S ws_7 ph xx mo mw ma mf m0 m1 mu mv u0 u1 iz mb th mn mpt mbg mwr mwk mlf y_2 f_3 G (-1) p1 p2 _ hT hph hy1 hR_2 hc) (cm_V 2 hts kc_X11_isIn ki_RX11 kl_RX11_350 kv_X11_isIn kx_X11_isIn kd_X11_isIn ⟨Nat.le_of_ble_eq_true rfl, Nat.le_of_ble_eq_true rfl⟩) (ty_preE (ci := 11) (q0 := 1) hP hK hD hS hA hX rfl rfl) rfl rfl hl.1 rfl (lv_room (Nat.le_of_ble_eq_true rfl)) dX11_until_32 ⟨Nat.le_of_ble_eq_true rfl, Nat.le_of_ble_eq_true rfl⟩) (fun r_18 u H locs hw_19 hP hD hS => ?_)
      obtain ⟨ws_20, rfl⟩ : ∃ z, z = u := ⟨_, rfl⟩
      obtain ⟨hT, hp_21⟩ := hw_19
      have hp_21 : ((r_18 = 0 ∧ ¬ rf_of f_3 p1 0 = p2) ∨ (r_18 = 1 ∧ rf_of f_3 p1 0 = p2)) := hp_21
      obtain ⟨hP, hD⟩ := ty_shPD (w2 := ([(mu, .inl (ct 1, 42, .inr (.inl g_4))), (rf_MO mo mw ma mf m0 m1 mu mv u0 u1 iz th mb mn mpt mbg mwr mwk mlf y_2), (rf_RW ct 0 mw 958 f_3)] ++ ws_20)) hP hD rfl
      rcases hp_21 with ⟨rfl, hz_22⟩ | ⟨rfl, hz_23⟩
      · refine lv_if_eq (tgt := 42) hx hb dX11_until_35 (by decide) (fun _ => ?_) (fun hc => absurd (by decide) hc)
        refine lv_iconst (v := (-1)) hx hb dX11_until_42 (by decide) ?_
        obtain ⟨hP, hD⟩ := ty_ordPD (E2 := [(rf_MO mo mw ma mf m0 m1 mu mv u0 u1 iz th mb mn mpt mbg mwr mwk mlf y_2), (rf_RW ct 0 mw 958 f_3), (mu, .inl (ct 1, 42, .inr (.inl g_4)))]) (n := 3) [1, 2, 0] hP hD rfl rfl (by decide +kernel)
        exact W.iret (v := (-1)) hx hb hr (fun t ht hW => ⟨⟨(-1), (ws_20, y_2, f_3, g_4), rfl, ⟨hT, ⟨⟨y_1, y_2, f_3, g_4, hex_2, (Or.inr ⟨hz_10, ⟨hc_17, (Or.inl ⟨hz_22, ⟨rfl, rfl, rfl, rfl⟩⟩)⟩⟩)⟩, hR_2⟩⟩, by rw [ht]; exact hP, by rw [hAe]; exact hD⟩, hS.F ht⟩) hS.2.2 dX11_until_43
      · refine lv_if_eq (tgt := 42) hx hb dX11_until_35 (by decide) (fun hc => absurd hc (by decide)) (fun _ => ?_)
        refine lv_iload_n hx hb dX11_until_38 rfl (lv_at hl 3 rfl) ?_
        refine lv_goto (tgt := 43) hx hb dX11_until_39 (by decide) ?_
        obtain ⟨hP, hD⟩ := ty_ordPD (E2 := [(rf_MO mo mw ma mf m0 m1 mu mv u0 u1 iz th mb mn mpt mbg mwr mwk mlf y_2), (rf_RW ct 0 mw 958 f_3), (mu, .inl (ct 1, 42, .inr (.inl g_4)))]) (n := 3) [1, 2, 0] hP hD rfl rfl (by decide +kernel)
        exact W.iret (v := y_1) hx hb hr (fun t ht hW => ⟨⟨y_1, (ws_20, y_2, f_3, g_4), rfl, ⟨hT, ⟨⟨y_1, y_2, f_3, g_4, hex_2, (Or.inr ⟨hz_10, ⟨hc_17, (Or.inr ⟨hz_23, ⟨rfl, rfl, rfl, rfl⟩⟩)⟩⟩)⟩, hR_2⟩⟩, by rw [ht]; exact hP, by rw [hAe]; exact hD⟩, hS.F ht⟩) hS.2.2 dX11_until_43
    · refine lv_aload_n hx hb dX11_until_18 rfl (lv_at hl 0 rfl) ?_
      refine lv_iload_n hx hb dX11_until_19 rfl (lv_at hl 1 rfl) ?_
      obtain ⟨hP, hD⟩ := ty_opPD (E1 := []) (E2 := [(rf_MO mo mw ma mf m0 m1 mu mv u0 u1 iz th mb mn mpt mbg mwr mwk mlf y_2), (rf_RW ct 0 mw 958 f_3), (mu, .inl (ct 1, 42, .inr (.inl g_4)))]) (n := 3) [1, 2, 0] hP hD rfl rfl (by decide +kernel) ty_mva
      refine ty_Kv hP hD hS hA (va_runV (As := [.int p1]) (rest := []) ⟨hx, hb, hml, hown, hts⟩ (m_X11_alone l D ct S ws_7 ph xx mo mw ma mf m0 m1 mu mv u0 u1 iz mb th mn mpt mbg mwr mwk mlf y_2 f_3 G g_4 p1 _ hT hph hy1 hy11 hR_2 hc) (cm_V 1 hts kc_X11_alone ki_RX11 kl_RX11_382 kv_X11_alone kx_X11_alone kd_X11_alone ⟨Nat.le_of_ble_eq_true rfl, Nat.le_of_ble_eq_true rfl⟩) (ty_preE (ci := 11) (q0 := 0) hP hK hD hS hA hX rfl rfl) rfl rfl hl.1 rfl (lv_room (Nat.le_of_ble_eq_true rfl)) dX11_until_20 ⟨Nat.le_of_ble_eq_true rfl, Nat.le_of_ble_eq_true rfl⟩) (fun u H locs hw_25 hP hD hS => ?_)
      obtain ⟨ws_26, men1_27, f1_28, su1_29⟩ := u
      obtain ⟨hT, hp_30⟩ := hw_25
      have hp_30 : (q_X11_alone y_2 f_3 G g_4 p1 men1_27 f1_28 su1_29) ∧ rf_d ((f_3 8) + 1) f_3 f1_28 ∧ rf_R G (-1) f1_28 := hp_30
      obtain ⟨hq_31, hp_32⟩ := hp_30
      obtain ⟨hd_33, hq_34⟩ := hp_32
      have hR_35 := hq_34
      obtain ⟨hP, hD⟩ := ty_shPD (w2 := ([(rf_MO mo mw ma mf m0 m1 mu mv u0 u1 iz th mb mn mpt mbg mwr mwk mlf men1_27), (rf_RW ct 0 mw 958 f1_28), (mu, .inl (ct 1, 42, .inr (.inl su1_29)))] ++ ws_26)) hP hD rfl
      refine lv_iinc (v := (y_1 + Int32.ofInt 1)) (lv' := [(3, .int (y_1 + Int32.ofInt 1)), (0, .ref mo), (1, .int p1), (2, .int p2)]) hx hb dX11_until_23 hl (k := 3) rfl rfl (by decide) rfl (fun ls hl => ?_)
      refine lv_goto (tgt := 2) hx hb dX11_until_26 (by decide) ?_
      exact ih_2 _ _ _ _ (ty_inc (cm_lt hc_17)) ⟨ws_26, (y_1 + Int32.ofInt 1), men1_27, f1_28, su1_29, rfl, hT, hP, hD, hS, (lv_sub hl [1, 2, 3, 0] rfl), hR_35, ⟨q_yb (by decide) hex_2.1 hc_17, q_chs hex_2.1.1 hc_17 hex_2.2 hz_10 hq_31⟩⟩
def q_X11_untilAside (f : Nat → Int32) (G : Nat → Int32) (su : Nat → Int64) (p1 : Int32) (p2 : Int32) (r : Int32) (men1 : Int32) (f1 : Nat → Int32) (fa1 : Nat → Int32) (su1 : Nat → Int64) (sv1 : Nat → Int64) : Prop := (∃ (fa1_4 : Nat → Int32) (sv1_5 : Nat → Int64), (q_eq 958 f fa1_4 ∧ q_cs su sv1_5) ∧ (∃ (r_7 : Int32) (men1_10 : Int32) (f1_11 : Nat → Int32) (su1_12 : Nat → Int64), (q_X11_until (0 : Int32) f G su p1 p2 r_7 men1_10 f1_11 su1_12) ∧ (∃ (f1_21 : Nat → Int32) (su1_22 : Nat → Int64), (q_eq 958 fa1_4 f1_21 ∧ q_cs sv1_5 su1_22) ∧ (r = r_7 ∧ men1 = men1_10 ∧ f1 = f1_21 ∧ fa1 = fa1_4 ∧ su1 = su1_22 ∧ sv1 = sv1_5))))
set_option maxRecDepth 100000 in
set_option maxHeartbeats 4000000 in
theorem m_X11_untilAside (l : Launch) (D : va_G) (ct : Nat → ClassId) (S : ty_S) (ws : va_W) (ph : va_W → Prop) (xx : Nat → Nat → Nat → Prop) (mo : Nat) (mw : Nat) (ma : Nat) (mf : Nat) (m0 : Nat) (m1 : Nat) (mu : Nat) (mv : Nat) (u0 : Nat) (u1 : Nat) (iz : Nat) (mb : Nat) (th : Int32) (mn : Int32) (mpt : Int32) (mbg : Int32) (mwr : Int32) (mwk : Int32) (mlf : Int32) (men : Int32) (f : Nat → Int32) (G : Nat → Int32) (fa : Nat → Int32) (su : Nat → Int64) (sv : Nat → Int64) (p1 : Int32) (p2 : Int32) (sz : Nat) (hT : ty_V ct S ph ws) (hph : ty_C ph xx) (hy1 : ty_y1 xx) (hy11 : ty_y0 xx 11) (hR : rf_R G (-1) f) (hc : 0 ≤ p1.toInt ∧ p1.toInt < (G 9).toInt) : Met l yX11_untilAside (ws_ yX11_untilAside cX11_untilAside 4 (some .int)) ({ frames := 9, cells := 0, slots := 0, locals := 209 } : Room) (va_Pc [.ref mo, .int p1, .int p2] (cmP D ct sz ([(rf_MO mo mw ma mf m0 m1 mu mv u0 u1 iz th mb mn mpt mbg mwr mwk mlf men), (rf_RW ct 0 mw 958 f), (rf_RW ct 0 ma 958 fa), (mu, .inl (ct 1, 42, .inr (.inl su))), (mv, .inl (ct 1, 42, .inr (.inl sv)))] ++ ws))) (va_Qi (fun (r : Int32) (u : va_W × Int32 × (Nat → Int32) × (Nat → Int32) × (Nat → Int64) × (Nat → Int64)) => match u with | (u9, men1, f1, fa1, su1, sv1) => ty_V ct S ph u9 ∧ (q_X11_untilAside f G su p1 p2 r men1 f1 fa1 su1 sv1) ∧ rf_d (f 8) f f1 ∧ rf_R G (-1) f1) (cmB D ([(rf_MO mo mw ma mf m0 m1 mu mv u0 u1 iz th mb mn mpt mbg mwr mwk mlf men), (rf_RW ct 0 mw 958 f), (rf_RW ct 0 ma 958 fa), (mu, .inl (ct 1, 42, .inr (.inl su))), (mv, .inl (ct 1, 42, .inr (.inl sv)))] ++ ws) sz (fun (u : va_W × Int32 × (Nat → Int32) × (Nat → Int32) × (Nat → Int64) × (Nat → Int64)) => match u with | (u9, men1, f1, fa1, su1, sv1) => ([(rf_MO mo mw ma mf m0 m1 mu mv u0 u1 iz th mb mn mpt mbg mwr mwk mlf men1), (rf_RW ct 0 mw 958 f1), (rf_RW ct 0 ma 958 fa1), (mu, .inl (ct 1, 42, .inr (.inl su1))), (mv, .inl (ct 1, 42, .inr (.inl sv1)))] ++ u9))) (va_A ([(rf_MO mo mw ma mf m0 m1 mu mv u0 u1 iz th mb mn mpt mbg mwr mwk mlf men), (rf_RW ct 0 mw 958 f), (rf_RW ct 0 ma 958 fa), (mu, .inl (ct 1, 42, .inr (.inl su))), (mv, .inl (ct 1, 42, .inr (.inl sv)))] ++ ws) sz)) 0 0 (va_A ([(rf_MO mo mw ma mf m0 m1 mu mv u0 u1 iz th mb mn mpt mbg mwr mwk mlf men), (rf_RW ct 0 mw 958 f), (rf_RW ct 0 ma 958 fa), (mu, .inl (ct 1, 42, .inr (.inl su))), (mv, .inl (ct 1, 42, .inr (.inl sv)))] ++ ws) sz) := by
  refine Met.ofW (cc := cX11_untilAside) (maxL := 4) (ret := (some .int)) (by decide) rfl ?_
  intro p e s m args below meth c s₁ B hml hv
  obtain ⟨rfl, hsz, hP, hK, hD0, hX⟩ := hv
  have hx := B.exec
  have hb := B.bytes
  have hr := B.returns
  have hts := ws_all (atoms_spec (ws := ws_ yX11_untilAside cX11_untilAside 4 (some .int)) B.pre)
  have hown : s.vm.findClass RX11 = some m.cls := findClass_of_methodNamed B.named
  have hlocks := B.notSynchronized
  subst hsz
  have hD := hD0.self (sz := s.heap.size)
  generalize hAe : va_A ([(rf_MO mo mw ma mf m0 m1 mu mv u0 u1 iz th mb mn mpt mbg mwr mwk mlf men), (rf_RW ct 0 mw 958 f), (rf_RW ct 0 ma 958 fa), (mu, .inl (ct 1, 42, .inr (.inl su))), (mv, .inl (ct 1, 42, .inr (.inl sv)))] ++ ws) s.heap.size = A at hD hX ⊢
  have hA : ∀ q : Nat, s.heap.size ≤ q → A q := fun q h => by rw [← hAe]; exact Or.inr h
  have hS : va_S A s.heap s.heap [] := va_S.rf
  have hl := lv_entry ([.ref mo, .int p1, .int p2]) (n := 4) (Nat.le_of_ble_eq_true rfl)
  rw [lg_entry_eq]
  generalize (lg_sl ([.ref mo, .int p1, .int p2]) ++ List.replicate (4 - (lg_sl ([.ref mo, .int p1, .int p2])).length) Slot.unset).toArray = ls at hl ⊢
  have hl : lv_has ls 4 [(0, .ref mo), (1, .int p1), (2, .int p2)] := hl
  refine lv_aload_n hx hb dX11_untilAside_0 rfl (lv_at hl 0 rfl) ?_
  obtain ⟨hP, hD⟩ := ty_ipPD (E1 := []) (E2 := [(rf_MO mo mw ma mf m0 m1 mu mv u0 u1 iz th mb mn mpt mbg mwr mwk mlf men), (rf_RW ct 0 mw 958 f), (rf_RW ct 0 ma 958 fa), (mu, .inl (ct 1, 42, .inr (.inl su))), (mv, .inl (ct 1, 42, .inr (.inl sv)))]) hP hD rfl ty_mva
  refine ty_Kv hP hD hS hA (va_runV (As := []) (rest := []) ⟨hx, hb, hml, hown, hts⟩ (m_X11_goesAside l D ct S ws ph xx mo mw ma mf m0 m1 mu mv u0 u1 iz mb th mn mpt mbg mwr mwk mlf men f G fa su sv _ hT hph hy1 hy11 hR) (cm_V 0 hts kc_X11_goesAside ki_RX11 kl_RX11_379 kv_X11_goesAside kx_X11_goesAside kd_X11_goesAside ⟨Nat.le_of_ble_eq_true rfl, Nat.le_of_ble_eq_true rfl⟩) (ty_preE (ci := 11) (q0 := 0) hP hK hD hS hA hX rfl rfl) rfl rfl hl.1 rfl (lv_room (Nat.le_of_ble_eq_true rfl)) dX11_untilAside_1 ⟨Nat.le_of_ble_eq_true rfl, Nat.le_of_ble_eq_true rfl⟩) (fun u H locs hw_2 hP hD hS => ?_)
  obtain ⟨ws_3, fa1_4, sv1_5⟩ := u
  obtain ⟨hT, hp_6⟩ := hw_2
  have hp_6 : (rf_R G (-1) fa1_4 ∧ rf_d (f 8) f fa1_4) ∧ q_eq 958 f fa1_4 ∧ q_cs su sv1_5 := hp_6
  obtain ⟨hP, hD⟩ := ty_shPD (w2 := ([(rf_MO mo mw ma mf m0 m1 mu mv u0 u1 iz th mb mn mpt mbg mwr mwk mlf (0)), (rf_RW ct 0 mw 958 f), (rf_RW ct 0 ma 958 fa1_4), (mu, .inl (ct 1, 42, .inr (.inl su))), (mv, .inl (ct 1, 42, .inr (.inl sv1_5)))] ++ ws_3)) hP hD rfl
  refine lv_aload_n hx hb dX11_untilAside_4 rfl (lv_at hl 0 rfl) ?_
  refine lv_iload_n hx hb dX11_untilAside_5 rfl (lv_at hl 1 rfl) ?_
  refine lv_iload_n hx hb dX11_untilAside_6 rfl (lv_at hl 2 rfl) ?_
  obtain ⟨hP, hD⟩ := ty_opPD (E1 := [(rf_RW ct 0 ma 958 fa1_4), (mv, .inl (ct 1, 42, .inr (.inl sv1_5)))]) (E2 := [(rf_MO mo mw ma mf m0 m1 mu mv u0 u1 iz th mb mn mpt mbg mwr mwk mlf (0)), (rf_RW ct 0 mw 958 f), (mu, .inl (ct 1, 42, .inr (.inl su)))]) (n := 5) [2, 4, 0, 1, 3] hP hD rfl rfl (by decide +kernel) ty_mva
  refine ty_Ki hP hD hS hA (va_runV (As := [.int p1, .int p2]) (rest := []) ⟨hx, hb, hml, hown, hts⟩ (m_X11_until l D ct S ws_3 ph xx mo mw ma mf m0 m1 mu mv u0 u1 iz mb th mn mpt mbg mwr mwk mlf (0 : Int32) f G su p1 p2 _ hT hph hy1 hy11 hR hc) (cm_V 2 hts kc_X11_until ki_RX11 kl_RX11_388 kv_X11_until kx_X11_until kd_X11_until ⟨Nat.le_of_ble_eq_true rfl, Nat.le_of_ble_eq_true rfl⟩) (ty_preE (ci := 11) (q0 := 2) hP hK hD hS hA hX rfl rfl) rfl rfl hl.1 rfl (lv_room (Nat.le_of_ble_eq_true rfl)) dX11_untilAside_7 ⟨Nat.le_of_ble_eq_true rfl, Nat.le_of_ble_eq_true rfl⟩) (fun r_7 u H locs hw_8 hP hD hS => ?_)
  obtain ⟨ws_9, men1_10, f1_11, su1_12⟩ := u
  obtain ⟨hT, hp_13⟩ := hw_8
  have hp_13 : (q_X11_until (0 : Int32) f G su p1 p2 r_7 men1_10 f1_11 su1_12) ∧ rf_R G (-1) f1_11 := hp_13
  obtain ⟨hq_14, hp_15⟩ := hp_13
  have hR_16 := hp_15
  obtain ⟨hP, hD⟩ := ty_shPD (w2 := ([(rf_RW ct 0 ma 958 fa1_4), (mv, .inl (ct 1, 42, .inr (.inl sv1_5))), (rf_MO mo mw ma mf m0 m1 mu mv u0 u1 iz th mb mn mpt mbg mwr mwk mlf men1_10), (rf_RW ct 0 mw 958 f1_11), (mu, .inl (ct 1, 42, .inr (.inl su1_12)))] ++ ws_9)) hP hD rfl
  refine lv_istore_n (lv' := [(3, .int r_7), (0, .ref mo), (1, .int p1), (2, .int p2)]) hx hb dX11_untilAside_10 rfl hl (by decide) rfl (fun ls hl => ?_)
  refine lv_aload_n hx hb dX11_untilAside_11 rfl (lv_at hl 1 rfl) ?_
  obtain ⟨hP, hD⟩ := ty_opPD (E1 := []) (E2 := [(rf_MO mo mw ma mf m0 m1 mu mv u0 u1 iz th mb mn mpt mbg mwr mwk mlf men1_10), (rf_RW ct 0 mw 958 f1_11), (rf_RW ct 0 ma 958 fa1_4), (mu, .inl (ct 1, 42, .inr (.inl su1_12))), (mv, .inl (ct 1, 42, .inr (.inl sv1_5)))]) (n := 5) [2, 3, 0, 4, 1] hP hD rfl rfl (by decide +kernel) ty_mva
  refine ty_Kv hP hD hS hA (va_runV (As := []) (rest := []) ⟨hx, hb, hml, hown, hts⟩ (m_X11_comesBack l D ct S ws_9 ph xx mo mw ma mf m0 m1 mu mv u0 u1 iz mb th mn mpt mbg mwr mwk mlf men1_10 f1_11 G fa1_4 su1_12 sv1_5 _ hT hph hy1 hy11 hp_6.1.1) (cm_V 0 hts kc_X11_comesBack ki_RX11 kl_RX11_385 kv_X11_comesBack kx_X11_comesBack kd_X11_comesBack ⟨Nat.le_of_ble_eq_true rfl, Nat.le_of_ble_eq_true rfl⟩) (ty_preE (ci := 11) (q0 := 0) hP hK hD hS hA hX rfl rfl) rfl rfl hl.1 rfl (lv_room (Nat.le_of_ble_eq_true rfl)) dX11_untilAside_12 ⟨Nat.le_of_ble_eq_true rfl, Nat.le_of_ble_eq_true rfl⟩) (fun u H locs hw_19 hP hD hS => ?_)
  obtain ⟨ws_20, f1_21, su1_22⟩ := u
  obtain ⟨hT, hp_23⟩ := hw_19
  have hp_23 : rf_R G (-1) f1_21 ∧ (rf_d (fa1_4 8) fa1_4 f1_21 ∧ q_eq 958 fa1_4 f1_21 ∧ q_cs sv1_5 su1_22) := hp_23
  have hR_24 := hp_23.1
  obtain ⟨hP, hD⟩ := ty_shPD (w2 := ([(rf_MO mo mw ma mf m0 m1 mu mv u0 u1 iz th mb mn mpt mbg mwr mwk mlf men1_10), (rf_RW ct 0 mw 958 f1_21), (rf_RW ct 0 ma 958 fa1_4), (mu, .inl (ct 1, 42, .inr (.inl su1_22))), (mv, .inl (ct 1, 42, .inr (.inl sv1_5)))] ++ ws_20)) hP hD rfl
  have hD_26 := rf_dg (rf_dr f) hp_6.1.2 hp_23.2.1
  refine lv_iload_n hx hb dX11_untilAside_15 rfl (lv_at hl 0 rfl) ?_
  exact W.iret (v := r_7) hx hb hr (fun t ht hW => ⟨⟨r_7, (ws_20, men1_10, f1_21, fa1_4, su1_22, sv1_5), rfl, ⟨hT, ⟨⟨fa1_4, sv1_5, hp_6.2, ⟨r_7, men1_10, f1_11, su1_12, hq_14, ⟨f1_21, su1_22, hp_23.2.2, ⟨rfl, rfl, rfl, rfl, rfl, rfl⟩⟩⟩⟩, ⟨hD_26, hR_24⟩⟩⟩, by rw [ht]; exact hP, by rw [hAe]; exact hD⟩, hS.F ht⟩) hS.2.2 dX11_untilAside_16
def q_X11_doneIn (men : Int32) (f : Nat → Int32) (G : Nat → Int32) (fa : Nat → Int32) (su : Nat → Int64) (sv : Nat → Int64) (p1 : Int32) (r : Int32) (men1 : Int32) (th1 : Int32) (f1 : Nat → Int32) (fa1 : Nat → Int32) (su1 : Nat → Int64) (sv1 : Nat → Int64) : Prop := (∃ (th1_4 : Int32), True ∧ ((((0 ≤ p1.toInt ∧ p1.toInt < (G 9).toInt) ∧ th1_4 = 0) ∧ ((¬ rf_of f p1 0 = (3 : Int32) ∧ ((¬ rf_of f p1 0 = (1 : Int32) ∧ (r = (-1) ∧ men1 = men ∧ th1 = 0 ∧ f1 = f ∧ fa1 = fa ∧ su1 = su ∧ sv1 = sv)) ∨ (rf_of f p1 0 = (1 : Int32) ∧ (∃ (r_21 : Int32) (men1_24 : Int32) (f1_25 : Nat → Int32) (fa1_26 : Nat → Int32) (su1_27 : Nat → Int64) (sv1_28 : Nat → Int64), (q_X11_untilAside f G su p1 (3 : Int32) r_21 men1_24 f1_25 fa1_26 su1_27 sv1_28) ∧ (r = r_21 ∧ men1 = men1_24 ∧ th1 = 0 ∧ f1 = f1_25 ∧ fa1 = fa1_26 ∧ su1 = su1_27 ∧ sv1 = sv1_28))))) ∨ (rf_of f p1 0 = (3 : Int32) ∧ (r = 0 ∧ men1 = men ∧ th1 = 0 ∧ f1 = f ∧ fa1 = fa ∧ su1 = su ∧ sv1 = sv)))) ∨ ((¬ (0 ≤ p1.toInt ∧ p1.toInt < (G 9).toInt) ∧ th1_4 = 1) ∧ (r = 0 ∧ men1 = men ∧ th1 = 1 ∧ f1 = f ∧ fa1 = fa ∧ su1 = su ∧ sv1 = sv))))
set_option maxRecDepth 100000 in
set_option maxHeartbeats 4000000 in
theorem m_X11_doneIn (l : Launch) (D : va_G) (ct : Nat → ClassId) (S : ty_S) (ws : va_W) (ph : va_W → Prop) (xx : Nat → Nat → Nat → Prop) (mo : Nat) (mw : Nat) (ma : Nat) (mf : Nat) (m0 : Nat) (m1 : Nat) (mu : Nat) (mv : Nat) (u0 : Nat) (u1 : Nat) (iz : Nat) (mb : Nat) (th : Int32) (mn : Int32) (mpt : Int32) (mbg : Int32) (mwr : Int32) (mwk : Int32) (mlf : Int32) (men : Int32) (f : Nat → Int32) (G : Nat → Int32) (fa : Nat → Int32) (su : Nat → Int64) (sv : Nat → Int64) (p1 : Int32) (sz : Nat) (hT : ty_V ct S ph ws) (hph : ty_C ph xx) (hy1 : ty_y1 xx) (hy11 : ty_y0 xx 11) (hR : rf_R G (-1) f) : Met l yX11_doneIn (ws_ yX11_doneIn cX11_doneIn 2 (some .int)) ({ frames := 10, cells := 0, slots := 0, locals := 232 } : Room) (va_Pc [.ref mo, .int p1] (cmP D ct sz ([(rf_MO mo mw ma mf m0 m1 mu mv u0 u1 iz th mb mn mpt mbg mwr mwk mlf men), (rf_RW ct 0 mw 958 f), (rf_RW ct 0 ma 958 fa), (mu, .inl (ct 1, 42, .inr (.inl su))), (mv, .inl (ct 1, 42, .inr (.inl sv)))] ++ ws))) (va_Qi (fun (r : Int32) (u : va_W × Int32 × Int32 × (Nat → Int32) × (Nat → Int32) × (Nat → Int64) × (Nat → Int64)) => match u with | (u9, men1, th1, f1, fa1, su1, sv1) => ty_V ct S ph u9 ∧ (q_X11_doneIn men f G fa su sv p1 r men1 th1 f1 fa1 su1 sv1) ∧ rf_d (f 8) f f1 ∧ rf_R G (-1) f1) (cmB D ([(rf_MO mo mw ma mf m0 m1 mu mv u0 u1 iz th mb mn mpt mbg mwr mwk mlf men), (rf_RW ct 0 mw 958 f), (rf_RW ct 0 ma 958 fa), (mu, .inl (ct 1, 42, .inr (.inl su))), (mv, .inl (ct 1, 42, .inr (.inl sv)))] ++ ws) sz (fun (u : va_W × Int32 × Int32 × (Nat → Int32) × (Nat → Int32) × (Nat → Int64) × (Nat → Int64)) => match u with | (u9, men1, th1, f1, fa1, su1, sv1) => ([(rf_MO mo mw ma mf m0 m1 mu mv u0 u1 iz th1 mb mn mpt mbg mwr mwk mlf men1), (rf_RW ct 0 mw 958 f1), (rf_RW ct 0 ma 958 fa1), (mu, .inl (ct 1, 42, .inr (.inl su1))), (mv, .inl (ct 1, 42, .inr (.inl sv1)))] ++ u9))) (va_A ([(rf_MO mo mw ma mf m0 m1 mu mv u0 u1 iz th mb mn mpt mbg mwr mwk mlf men), (rf_RW ct 0 mw 958 f), (rf_RW ct 0 ma 958 fa), (mu, .inl (ct 1, 42, .inr (.inl su))), (mv, .inl (ct 1, 42, .inr (.inl sv)))] ++ ws) sz)) 0 0 (va_A ([(rf_MO mo mw ma mf m0 m1 mu mv u0 u1 iz th mb mn mpt mbg mwr mwk mlf men), (rf_RW ct 0 mw 958 f), (rf_RW ct 0 ma 958 fa), (mu, .inl (ct 1, 42, .inr (.inl su))), (mv, .inl (ct 1, 42, .inr (.inl sv)))] ++ ws) sz) := by
  refine Met.ofW (cc := cX11_doneIn) (maxL := 2) (ret := (some .int)) (by decide) rfl ?_
  intro p e s m args below meth c s₁ B hml hv
  obtain ⟨rfl, hsz, hP, hK, hD0, hX⟩ := hv
  have hx := B.exec
  have hb := B.bytes
  have hr := B.returns
  have hts := ws_all (atoms_spec (ws := ws_ yX11_doneIn cX11_doneIn 2 (some .int)) B.pre)
  have hown : s.vm.findClass RX11 = some m.cls := findClass_of_methodNamed B.named
  have hlocks := B.notSynchronized
  subst hsz
  have hD := hD0.self (sz := s.heap.size)
  generalize hAe : va_A ([(rf_MO mo mw ma mf m0 m1 mu mv u0 u1 iz th mb mn mpt mbg mwr mwk mlf men), (rf_RW ct 0 mw 958 f), (rf_RW ct 0 ma 958 fa), (mu, .inl (ct 1, 42, .inr (.inl su))), (mv, .inl (ct 1, 42, .inr (.inl sv)))] ++ ws) s.heap.size = A at hD hX ⊢
  have hA : ∀ q : Nat, s.heap.size ≤ q → A q := fun q h => by rw [← hAe]; exact Or.inr h
  have hS : va_S A s.heap s.heap [] := va_S.rf
  have hl := lv_entry ([.ref mo, .int p1]) (n := 2) (Nat.le_of_ble_eq_true rfl)
  rw [lg_entry_eq]
  generalize (lg_sl ([.ref mo, .int p1]) ++ List.replicate (2 - (lg_sl ([.ref mo, .int p1])).length) Slot.unset).toArray = ls at hl ⊢
  have hl : lv_has ls 2 [(0, .ref mo), (1, .int p1)] := hl
  refine lv_aload_n hx hb dX11_doneIn_0 rfl (lv_at hl 0 rfl) ?_
  refine lv_iload_n hx hb dX11_doneIn_1 rfl (lv_at hl 1 rfl) ?_
  obtain ⟨hP, hD⟩ := ty_opPD (E1 := [(rf_RW ct 0 ma 958 fa), (mu, .inl (ct 1, 42, .inr (.inl su))), (mv, .inl (ct 1, 42, .inr (.inl sv)))]) (E2 := [(rf_MO mo mw ma mf m0 m1 mu mv u0 u1 iz th mb mn mpt mbg mwr mwk mlf men), (rf_RW ct 0 mw 958 f)]) (n := 5) [2, 3, 4, 0, 1] hP hD rfl rfl (by decide +kernel) ty_mva
  refine ty_Ki hP hD hS hA (va_runV (As := [.int p1]) (rest := []) ⟨hx, hb, hml, hown, hts⟩ (m_X11_noChannel l D ct S ws ph xx mo mw ma mf m0 m1 mu mv u0 u1 iz mb th mn mpt mbg mwr mwk mlf men f G (-1) p1 _ hT hph hy1 hR) (cm_V 1 hts kc_X11_noChannel ki_RX11 kl_RX11_344 kv_X11_noChannel kx_X11_noChannel kd_X11_noChannel ⟨Nat.le_of_ble_eq_true rfl, Nat.le_of_ble_eq_true rfl⟩) (ty_preE (ci := 11) (q0 := 3) hP hK hD hS hA hX rfl rfl) rfl rfl hl.1 rfl (lv_room (Nat.le_of_ble_eq_true rfl)) dX11_doneIn_2 ⟨Nat.le_of_ble_eq_true rfl, Nat.le_of_ble_eq_true rfl⟩) (fun r_1 u H locs hw_2 hP hD hS => ?_)
  obtain ⟨ws_3, th1_4⟩ := u
  obtain ⟨hT, hp_5⟩ := hw_2
  have hp_5 : ((r_1 = 0 ∧ (0 ≤ p1.toInt ∧ p1.toInt < (G 9).toInt) ∧ th1_4 = 0) ∨ (r_1 = 1 ∧ ¬ (0 ≤ p1.toInt ∧ p1.toInt < (G 9).toInt) ∧ th1_4 = 1)) := hp_5
  obtain ⟨hP, hD⟩ := ty_shPD (w2 := ([(rf_RW ct 0 ma 958 fa), (mu, .inl (ct 1, 42, .inr (.inl su))), (mv, .inl (ct 1, 42, .inr (.inl sv))), (rf_MO mo mw ma mf m0 m1 mu mv u0 u1 iz th1_4 mb mn mpt mbg mwr mwk mlf men), (rf_RW ct 0 mw 958 f)] ++ ws_3)) hP hD rfl
  rcases hp_5 with ⟨rfl, hz_6⟩ | ⟨rfl, hz_7⟩
  · have he_8 := hz_6.2
    have hP : va_P D vwCl ([(rf_RW ct 0 ma 958 fa), (mu, .inl (ct 1, 42, .inr (.inl su))), (mv, .inl (ct 1, 42, .inr (.inl sv))), (rf_MO mo mw ma mf m0 m1 mu mv u0 u1 iz (0) mb mn mpt mbg mwr mwk mlf men), (rf_RW ct 0 mw 958 f)] ++ ws_3) H := by rw [he_8] at hP; exact hP
    have hD : va_D A ([(rf_RW ct 0 ma 958 fa), (mu, .inl (ct 1, 42, .inr (.inl su))), (mv, .inl (ct 1, 42, .inr (.inl sv))), (rf_MO mo mw ma mf m0 m1 mu mv u0 u1 iz (0) mb mn mpt mbg mwr mwk mlf men), (rf_RW ct 0 mw 958 f)] ++ ws_3) := by rw [he_8] at hD; exact hD
    refine lv_if_eq (tgt := 10) hx hb dX11_doneIn_5 (by decide) (fun _ => ?_) (fun hc => absurd (by decide) hc)
    refine lv_aload_n hx hb dX11_doneIn_10 rfl (lv_at hl 0 rfl) ?_
    refine lv_iload_n hx hb dX11_doneIn_11 rfl (lv_at hl 1 rfl) ?_
    refine lv_iconst (v := 3) hx hb dX11_doneIn_12 (by decide) ?_
    obtain ⟨hP, hD⟩ := ty_ipPD (E1 := [(rf_RW ct 0 ma 958 fa), (mu, .inl (ct 1, 42, .inr (.inl su))), (mv, .inl (ct 1, 42, .inr (.inl sv)))]) (E2 := [(rf_MO mo mw ma mf m0 m1 mu mv u0 u1 iz (0) mb mn mpt mbg mwr mwk mlf men), (rf_RW ct 0 mw 958 f)]) hP hD rfl ty_mva
    refine ty_Ki hP hD hS hA (va_runV (As := [.int p1, .int 3]) (rest := []) ⟨hx, hb, hml, hown, hts⟩ (m_X11_isIn l D ct S ws_3 ph xx mo mw ma mf m0 m1 mu mv u0 u1 iz mb (0 : Int32) mn mpt mbg mwr mwk mlf men f G (-1) p1 (3 : Int32) _ hT hph hy1 hR hz_6.1) (cm_V 2 hts kc_X11_isIn ki_RX11 kl_RX11_350 kv_X11_isIn kx_X11_isIn kd_X11_isIn ⟨Nat.le_of_ble_eq_true rfl, Nat.le_of_ble_eq_true rfl⟩) (ty_preE (ci := 11) (q0 := 3) hP hK hD hS hA hX rfl rfl) rfl rfl hl.1 rfl (lv_room (Nat.le_of_ble_eq_true rfl)) dX11_doneIn_13 ⟨Nat.le_of_ble_eq_true rfl, Nat.le_of_ble_eq_true rfl⟩) (fun r_9 u H locs hw_10 hP hD hS => ?_)
    obtain ⟨ws_11, rfl⟩ : ∃ z, z = u := ⟨_, rfl⟩
    obtain ⟨hT, hp_12⟩ := hw_10
    have hp_12 : ((r_9 = 0 ∧ ¬ rf_of f p1 0 = (3 : Int32)) ∨ (r_9 = 1 ∧ rf_of f p1 0 = (3 : Int32))) := hp_12
    obtain ⟨hP, hD⟩ := ty_shPD (w2 := ([(rf_RW ct 0 ma 958 fa), (mu, .inl (ct 1, 42, .inr (.inl su))), (mv, .inl (ct 1, 42, .inr (.inl sv))), (rf_MO mo mw ma mf m0 m1 mu mv u0 u1 iz (0) mb mn mpt mbg mwr mwk mlf men), (rf_RW ct 0 mw 958 f)] ++ ws_11)) hP hD rfl
    rcases hp_12 with ⟨rfl, hz_13⟩ | ⟨rfl, hz_14⟩
    · refine lv_if_eq (tgt := 23) hx hb dX11_doneIn_16 (by decide) (fun _ => ?_) (fun hc => absurd (by decide) hc)
      refine lv_aload_n hx hb dX11_doneIn_23 rfl (lv_at hl 0 rfl) ?_
      refine lv_iload_n hx hb dX11_doneIn_24 rfl (lv_at hl 1 rfl) ?_
      refine lv_iconst (v := 1) hx hb dX11_doneIn_25 (by decide) ?_
      obtain ⟨hP, hD⟩ := ty_ipPD (E1 := [(rf_RW ct 0 ma 958 fa), (mu, .inl (ct 1, 42, .inr (.inl su))), (mv, .inl (ct 1, 42, .inr (.inl sv)))]) (E2 := [(rf_MO mo mw ma mf m0 m1 mu mv u0 u1 iz (0) mb mn mpt mbg mwr mwk mlf men), (rf_RW ct 0 mw 958 f)]) hP hD rfl ty_mva
      refine ty_Ki hP hD hS hA (va_runV (As := [.int p1, .int 1]) (rest := []) ⟨hx, hb, hml, hown, hts⟩ (m_X11_isIn l D ct S ws_11 ph xx mo mw ma mf m0 m1 mu mv u0 u1 iz mb (0 : Int32) mn mpt mbg mwr mwk mlf men f G (-1) p1 (1 : Int32) _ hT hph hy1 hR hz_6.1) (cm_V 2 hts kc_X11_isIn ki_RX11 kl_RX11_350 kv_X11_isIn kx_X11_isIn kd_X11_isIn ⟨Nat.le_of_ble_eq_true rfl, Nat.le_of_ble_eq_true rfl⟩) (ty_preE (ci := 11) (q0 := 3) hP hK hD hS hA hX rfl rfl) rfl rfl hl.1 rfl (lv_room (Nat.le_of_ble_eq_true rfl)) dX11_doneIn_26 ⟨Nat.le_of_ble_eq_true rfl, Nat.le_of_ble_eq_true rfl⟩) (fun r_15 u H locs hw_16 hP hD hS => ?_)
      obtain ⟨ws_17, rfl⟩ : ∃ z, z = u := ⟨_, rfl⟩
      obtain ⟨hT, hp_18⟩ := hw_16
      have hp_18 : ((r_15 = 0 ∧ ¬ rf_of f p1 0 = (1 : Int32)) ∨ (r_15 = 1 ∧ rf_of f p1 0 = (1 : Int32))) := hp_18
      obtain ⟨hP, hD⟩ := ty_shPD (w2 := ([(rf_RW ct 0 ma 958 fa), (mu, .inl (ct 1, 42, .inr (.inl su))), (mv, .inl (ct 1, 42, .inr (.inl sv))), (rf_MO mo mw ma mf m0 m1 mu mv u0 u1 iz (0) mb mn mpt mbg mwr mwk mlf men), (rf_RW ct 0 mw 958 f)] ++ ws_17)) hP hD rfl
      rcases hp_18 with ⟨rfl, hz_19⟩ | ⟨rfl, hz_20⟩
      · refine lv_if_eq (tgt := 41) hx hb dX11_doneIn_29 (by decide) (fun _ => ?_) (fun hc => absurd (by decide) hc)
        refine lv_iconst (v := (-1)) hx hb dX11_doneIn_41 (by decide) ?_
        obtain ⟨hP, hD⟩ := ty_ordPD (E2 := [(rf_MO mo mw ma mf m0 m1 mu mv u0 u1 iz (0) mb mn mpt mbg mwr mwk mlf men), (rf_RW ct 0 mw 958 f), (rf_RW ct 0 ma 958 fa), (mu, .inl (ct 1, 42, .inr (.inl su))), (mv, .inl (ct 1, 42, .inr (.inl sv)))]) (n := 5) [3, 4, 0, 1, 2] hP hD rfl rfl (by decide +kernel)
        exact W.iret (v := (-1)) hx hb hr (fun t ht hW => ⟨⟨(-1), (ws_17, men, (0 : Int32), f, fa, su, sv), rfl, ⟨hT, ⟨⟨th1_4, trivial, (Or.inl ⟨hz_6, (Or.inl ⟨hz_13, (Or.inl ⟨hz_19, ⟨rfl, rfl, rfl, rfl, rfl, rfl, rfl⟩⟩)⟩)⟩)⟩, ⟨(rf_dr f), hR⟩⟩⟩, by rw [ht]; exact hP, by rw [hAe]; exact hD⟩, hS.F ht⟩) hS.2.2 dX11_doneIn_42
      · refine lv_if_eq (tgt := 41) hx hb dX11_doneIn_29 (by decide) (fun hc => absurd hc (by decide)) (fun _ => ?_)
        refine lv_aload_n hx hb dX11_doneIn_32 rfl (lv_at hl 0 rfl) ?_
        refine lv_iload_n hx hb dX11_doneIn_33 rfl (lv_at hl 1 rfl) ?_
        refine lv_iconst (v := 3) hx hb dX11_doneIn_34 (by decide) ?_
        obtain ⟨hP, hD⟩ := ty_opPD (E1 := []) (E2 := [(rf_MO mo mw ma mf m0 m1 mu mv u0 u1 iz (0) mb mn mpt mbg mwr mwk mlf men), (rf_RW ct 0 mw 958 f), (rf_RW ct 0 ma 958 fa), (mu, .inl (ct 1, 42, .inr (.inl su))), (mv, .inl (ct 1, 42, .inr (.inl sv)))]) (n := 5) [3, 4, 0, 1, 2] hP hD rfl rfl (by decide +kernel) ty_mva
        refine ty_Ki hP hD hS hA (va_runV (As := [.int p1, .int 3]) (rest := []) ⟨hx, hb, hml, hown, hts⟩ (m_X11_untilAside l D ct S ws_17 ph xx mo mw ma mf m0 m1 mu mv u0 u1 iz mb (0 : Int32) mn mpt mbg mwr mwk mlf men f G fa su sv p1 (3 : Int32) _ hT hph hy1 hy11 hR hz_6.1) (cm_V 2 hts kc_X11_untilAside ki_RX11 kl_RX11_391 kv_X11_untilAside kx_X11_untilAside kd_X11_untilAside ⟨Nat.le_of_ble_eq_true rfl, Nat.le_of_ble_eq_true rfl⟩) (ty_preE (ci := 11) (q0 := 0) hP hK hD hS hA hX rfl rfl) rfl rfl hl.1 rfl (lv_room (Nat.le_of_ble_eq_true rfl)) dX11_doneIn_35 ⟨Nat.le_of_ble_eq_true rfl, Nat.le_of_ble_eq_true rfl⟩) (fun r_21 u H locs hw_22 hP hD hS => ?_)
        obtain ⟨ws_23, men1_24, f1_25, fa1_26, su1_27, sv1_28⟩ := u
        obtain ⟨hT, hp_29⟩ := hw_22
        have hp_29 : (q_X11_untilAside f G su p1 (3 : Int32) r_21 men1_24 f1_25 fa1_26 su1_27 sv1_28) ∧ rf_d (f 8) f f1_25 ∧ rf_R G (-1) f1_25 := hp_29
        obtain ⟨hq_30, hp_31⟩ := hp_29
        obtain ⟨hd_32, hq_33⟩ := hp_31
        have hD_34 := rf_dt (rf_dr f) hd_32
        have hR_35 := hq_33
        obtain ⟨hP, hD⟩ := ty_shPD (w2 := ([(rf_MO mo mw ma mf m0 m1 mu mv u0 u1 iz (0) mb mn mpt mbg mwr mwk mlf men1_24), (rf_RW ct 0 mw 958 f1_25), (rf_RW ct 0 ma 958 fa1_26), (mu, .inl (ct 1, 42, .inr (.inl su1_27))), (mv, .inl (ct 1, 42, .inr (.inl sv1_28)))] ++ ws_23)) hP hD rfl
        refine lv_goto (tgt := 42) hx hb dX11_doneIn_38 (by decide) ?_
        exact W.iret (v := r_21) hx hb hr (fun t ht hW => ⟨⟨r_21, (ws_23, men1_24, (0 : Int32), f1_25, fa1_26, su1_27, sv1_28), rfl, ⟨hT, ⟨⟨th1_4, trivial, (Or.inl ⟨hz_6, (Or.inl ⟨hz_13, (Or.inr ⟨hz_20, ⟨r_21, men1_24, f1_25, fa1_26, su1_27, sv1_28, hq_30, ⟨rfl, rfl, rfl, rfl, rfl, rfl, rfl⟩⟩⟩)⟩)⟩)⟩, ⟨hD_34, hR_35⟩⟩⟩, by rw [ht]; exact hP, by rw [hAe]; exact hD⟩, hS.F ht⟩) hS.2.2 dX11_doneIn_42
    · refine lv_if_eq (tgt := 23) hx hb dX11_doneIn_16 (by decide) (fun hc => absurd hc (by decide)) (fun _ => ?_)
      refine lv_iconst (v := 0) hx hb dX11_doneIn_19 (by decide) ?_
      refine lv_goto (tgt := 42) hx hb dX11_doneIn_20 (by decide) ?_
      obtain ⟨hP, hD⟩ := ty_ordPD (E2 := [(rf_MO mo mw ma mf m0 m1 mu mv u0 u1 iz (0) mb mn mpt mbg mwr mwk mlf men), (rf_RW ct 0 mw 958 f), (rf_RW ct 0 ma 958 fa), (mu, .inl (ct 1, 42, .inr (.inl su))), (mv, .inl (ct 1, 42, .inr (.inl sv)))]) (n := 5) [3, 4, 0, 1, 2] hP hD rfl rfl (by decide +kernel)
      exact W.iret (v := 0) hx hb hr (fun t ht hW => ⟨⟨0, (ws_11, men, (0 : Int32), f, fa, su, sv), rfl, ⟨hT, ⟨⟨th1_4, trivial, (Or.inl ⟨hz_6, (Or.inr ⟨hz_14, ⟨rfl, rfl, rfl, rfl, rfl, rfl, rfl⟩⟩)⟩)⟩, ⟨(rf_dr f), hR⟩⟩⟩, by rw [ht]; exact hP, by rw [hAe]; exact hD⟩, hS.F ht⟩) hS.2.2 dX11_doneIn_42
  · have he_37 := hz_7.2
    have hP : va_P D vwCl ([(rf_RW ct 0 ma 958 fa), (mu, .inl (ct 1, 42, .inr (.inl su))), (mv, .inl (ct 1, 42, .inr (.inl sv))), (rf_MO mo mw ma mf m0 m1 mu mv u0 u1 iz (1) mb mn mpt mbg mwr mwk mlf men), (rf_RW ct 0 mw 958 f)] ++ ws_3) H := by rw [he_37] at hP; exact hP
    have hD : va_D A ([(rf_RW ct 0 ma 958 fa), (mu, .inl (ct 1, 42, .inr (.inl su))), (mv, .inl (ct 1, 42, .inr (.inl sv))), (rf_MO mo mw ma mf m0 m1 mu mv u0 u1 iz (1) mb mn mpt mbg mwr mwk mlf men), (rf_RW ct 0 mw 958 f)] ++ ws_3) := by rw [he_37] at hD; exact hD
    refine lv_if_eq (tgt := 10) hx hb dX11_doneIn_5 (by decide) (fun hc => absurd hc (by decide)) (fun _ => ?_)
    refine lv_iconst (v := 0) hx hb dX11_doneIn_8 (by decide) ?_
    obtain ⟨hP, hD⟩ := ty_ordPD (E2 := [(rf_MO mo mw ma mf m0 m1 mu mv u0 u1 iz (1) mb mn mpt mbg mwr mwk mlf men), (rf_RW ct 0 mw 958 f), (rf_RW ct 0 ma 958 fa), (mu, .inl (ct 1, 42, .inr (.inl su))), (mv, .inl (ct 1, 42, .inr (.inl sv)))]) (n := 5) [3, 4, 0, 1, 2] hP hD rfl rfl (by decide +kernel)
    exact W.iret (v := 0) hx hb hr (fun t ht hW => ⟨⟨0, (ws_3, men, (1 : Int32), f, fa, su, sv), rfl, ⟨hT, ⟨⟨th1_4, trivial, (Or.inr ⟨hz_7, ⟨rfl, rfl, rfl, rfl, rfl, rfl, rfl⟩⟩)⟩, ⟨(rf_dr f), hR⟩⟩⟩, by rw [ht]; exact hP, by rw [hAe]; exact hD⟩, hS.F ht⟩) hS.2.2 dX11_doneIn_9
def q_X11_tripsIn (men : Int32) (f : Nat → Int32) (G : Nat → Int32) (fa : Nat → Int32) (su : Nat → Int64) (sv : Nat → Int64) (p1 : Int32) (r : Int32) (men1 : Int32) (th1 : Int32) (f1 : Nat → Int32) (fa1 : Nat → Int32) (su1 : Nat → Int64) (sv1 : Nat → Int64) : Prop := (∃ (th1_4 : Int32), True ∧ ((((0 ≤ p1.toInt ∧ p1.toInt < (G 9).toInt) ∧ th1_4 = 0) ∧ ((¬ rf_of f p1 0 = (1 : Int32) ∧ (r = (-1) ∧ men1 = men ∧ th1 = 0 ∧ f1 = f ∧ fa1 = fa ∧ su1 = su ∧ sv1 = sv)) ∨ (rf_of f p1 0 = (1 : Int32) ∧ (∃ (r_15 : Int32) (men1_18 : Int32) (f1_19 : Nat → Int32) (fa1_20 : Nat → Int32) (su1_21 : Nat → Int64) (sv1_22 : Nat → Int64), (q_X11_untilAside f G su p1 (4 : Int32) r_15 men1_18 f1_19 fa1_20 su1_21 sv1_22) ∧ (r = r_15 ∧ men1 = men1_18 ∧ th1 = 0 ∧ f1 = f1_19 ∧ fa1 = fa1_20 ∧ su1 = su1_21 ∧ sv1 = sv1_22))))) ∨ ((¬ (0 ≤ p1.toInt ∧ p1.toInt < (G 9).toInt) ∧ th1_4 = 1) ∧ (r = 0 ∧ men1 = men ∧ th1 = 1 ∧ f1 = f ∧ fa1 = fa ∧ su1 = su ∧ sv1 = sv))))
set_option maxRecDepth 100000 in
set_option maxHeartbeats 4000000 in
theorem m_X11_tripsIn (l : Launch) (D : va_G) (ct : Nat → ClassId) (S : ty_S) (ws : va_W) (ph : va_W → Prop) (xx : Nat → Nat → Nat → Prop) (mo : Nat) (mw : Nat) (ma : Nat) (mf : Nat) (m0 : Nat) (m1 : Nat) (mu : Nat) (mv : Nat) (u0 : Nat) (u1 : Nat) (iz : Nat) (mb : Nat) (th : Int32) (mn : Int32) (mpt : Int32) (mbg : Int32) (mwr : Int32) (mwk : Int32) (mlf : Int32) (men : Int32) (f : Nat → Int32) (G : Nat → Int32) (fa : Nat → Int32) (su : Nat → Int64) (sv : Nat → Int64) (p1 : Int32) (sz : Nat) (hT : ty_V ct S ph ws) (hph : ty_C ph xx) (hy1 : ty_y1 xx) (hy11 : ty_y0 xx 11) (hR : rf_R G (-1) f) : Met l yX11_tripsIn (ws_ yX11_tripsIn cX11_tripsIn 2 (some .int)) ({ frames := 10, cells := 0, slots := 0, locals := 232 } : Room) (va_Pc [.ref mo, .int p1] (cmP D ct sz ([(rf_MO mo mw ma mf m0 m1 mu mv u0 u1 iz th mb mn mpt mbg mwr mwk mlf men), (rf_RW ct 0 mw 958 f), (rf_RW ct 0 ma 958 fa), (mu, .inl (ct 1, 42, .inr (.inl su))), (mv, .inl (ct 1, 42, .inr (.inl sv)))] ++ ws))) (va_Qi (fun (r : Int32) (u : va_W × Int32 × Int32 × (Nat → Int32) × (Nat → Int32) × (Nat → Int64) × (Nat → Int64)) => match u with | (u9, men1, th1, f1, fa1, su1, sv1) => ty_V ct S ph u9 ∧ (q_X11_tripsIn men f G fa su sv p1 r men1 th1 f1 fa1 su1 sv1) ∧ rf_d (f 8) f f1 ∧ rf_R G (-1) f1) (cmB D ([(rf_MO mo mw ma mf m0 m1 mu mv u0 u1 iz th mb mn mpt mbg mwr mwk mlf men), (rf_RW ct 0 mw 958 f), (rf_RW ct 0 ma 958 fa), (mu, .inl (ct 1, 42, .inr (.inl su))), (mv, .inl (ct 1, 42, .inr (.inl sv)))] ++ ws) sz (fun (u : va_W × Int32 × Int32 × (Nat → Int32) × (Nat → Int32) × (Nat → Int64) × (Nat → Int64)) => match u with | (u9, men1, th1, f1, fa1, su1, sv1) => ([(rf_MO mo mw ma mf m0 m1 mu mv u0 u1 iz th1 mb mn mpt mbg mwr mwk mlf men1), (rf_RW ct 0 mw 958 f1), (rf_RW ct 0 ma 958 fa1), (mu, .inl (ct 1, 42, .inr (.inl su1))), (mv, .inl (ct 1, 42, .inr (.inl sv1)))] ++ u9))) (va_A ([(rf_MO mo mw ma mf m0 m1 mu mv u0 u1 iz th mb mn mpt mbg mwr mwk mlf men), (rf_RW ct 0 mw 958 f), (rf_RW ct 0 ma 958 fa), (mu, .inl (ct 1, 42, .inr (.inl su))), (mv, .inl (ct 1, 42, .inr (.inl sv)))] ++ ws) sz)) 0 0 (va_A ([(rf_MO mo mw ma mf m0 m1 mu mv u0 u1 iz th mb mn mpt mbg mwr mwk mlf men), (rf_RW ct 0 mw 958 f), (rf_RW ct 0 ma 958 fa), (mu, .inl (ct 1, 42, .inr (.inl su))), (mv, .inl (ct 1, 42, .inr (.inl sv)))] ++ ws) sz) := by
  refine Met.ofW (cc := cX11_tripsIn) (maxL := 2) (ret := (some .int)) (by decide) rfl ?_
  intro p e s m args below meth c s₁ B hml hv
  obtain ⟨rfl, hsz, hP, hK, hD0, hX⟩ := hv
  have hx := B.exec
  have hb := B.bytes
  have hr := B.returns
  have hts := ws_all (atoms_spec (ws := ws_ yX11_tripsIn cX11_tripsIn 2 (some .int)) B.pre)
  have hown : s.vm.findClass RX11 = some m.cls := findClass_of_methodNamed B.named
  have hlocks := B.notSynchronized
  subst hsz
  have hD := hD0.self (sz := s.heap.size)
  generalize hAe : va_A ([(rf_MO mo mw ma mf m0 m1 mu mv u0 u1 iz th mb mn mpt mbg mwr mwk mlf men), (rf_RW ct 0 mw 958 f), (rf_RW ct 0 ma 958 fa), (mu, .inl (ct 1, 42, .inr (.inl su))), (mv, .inl (ct 1, 42, .inr (.inl sv)))] ++ ws) s.heap.size = A at hD hX ⊢
  have hA : ∀ q : Nat, s.heap.size ≤ q → A q := fun q h => by rw [← hAe]; exact Or.inr h
  have hS : va_S A s.heap s.heap [] := va_S.rf
  have hl := lv_entry ([.ref mo, .int p1]) (n := 2) (Nat.le_of_ble_eq_true rfl)
  rw [lg_entry_eq]
  generalize (lg_sl ([.ref mo, .int p1]) ++ List.replicate (2 - (lg_sl ([.ref mo, .int p1])).length) Slot.unset).toArray = ls at hl ⊢
  have hl : lv_has ls 2 [(0, .ref mo), (1, .int p1)] := hl
  refine lv_aload_n hx hb dX11_tripsIn_0 rfl (lv_at hl 0 rfl) ?_
  refine lv_iload_n hx hb dX11_tripsIn_1 rfl (lv_at hl 1 rfl) ?_
  obtain ⟨hP, hD⟩ := ty_opPD (E1 := [(rf_RW ct 0 ma 958 fa), (mu, .inl (ct 1, 42, .inr (.inl su))), (mv, .inl (ct 1, 42, .inr (.inl sv)))]) (E2 := [(rf_MO mo mw ma mf m0 m1 mu mv u0 u1 iz th mb mn mpt mbg mwr mwk mlf men), (rf_RW ct 0 mw 958 f)]) (n := 5) [2, 3, 4, 0, 1] hP hD rfl rfl (by decide +kernel) ty_mva
  refine ty_Ki hP hD hS hA (va_runV (As := [.int p1]) (rest := []) ⟨hx, hb, hml, hown, hts⟩ (m_X11_noChannel l D ct S ws ph xx mo mw ma mf m0 m1 mu mv u0 u1 iz mb th mn mpt mbg mwr mwk mlf men f G (-1) p1 _ hT hph hy1 hR) (cm_V 1 hts kc_X11_noChannel ki_RX11 kl_RX11_344 kv_X11_noChannel kx_X11_noChannel kd_X11_noChannel ⟨Nat.le_of_ble_eq_true rfl, Nat.le_of_ble_eq_true rfl⟩) (ty_preE (ci := 11) (q0 := 3) hP hK hD hS hA hX rfl rfl) rfl rfl hl.1 rfl (lv_room (Nat.le_of_ble_eq_true rfl)) dX11_tripsIn_2 ⟨Nat.le_of_ble_eq_true rfl, Nat.le_of_ble_eq_true rfl⟩) (fun r_1 u H locs hw_2 hP hD hS => ?_)
  obtain ⟨ws_3, th1_4⟩ := u
  obtain ⟨hT, hp_5⟩ := hw_2
  have hp_5 : ((r_1 = 0 ∧ (0 ≤ p1.toInt ∧ p1.toInt < (G 9).toInt) ∧ th1_4 = 0) ∨ (r_1 = 1 ∧ ¬ (0 ≤ p1.toInt ∧ p1.toInt < (G 9).toInt) ∧ th1_4 = 1)) := hp_5
  obtain ⟨hP, hD⟩ := ty_shPD (w2 := ([(rf_RW ct 0 ma 958 fa), (mu, .inl (ct 1, 42, .inr (.inl su))), (mv, .inl (ct 1, 42, .inr (.inl sv))), (rf_MO mo mw ma mf m0 m1 mu mv u0 u1 iz th1_4 mb mn mpt mbg mwr mwk mlf men), (rf_RW ct 0 mw 958 f)] ++ ws_3)) hP hD rfl
  rcases hp_5 with ⟨rfl, hz_6⟩ | ⟨rfl, hz_7⟩
  · have he_8 := hz_6.2
    have hP : va_P D vwCl ([(rf_RW ct 0 ma 958 fa), (mu, .inl (ct 1, 42, .inr (.inl su))), (mv, .inl (ct 1, 42, .inr (.inl sv))), (rf_MO mo mw ma mf m0 m1 mu mv u0 u1 iz (0) mb mn mpt mbg mwr mwk mlf men), (rf_RW ct 0 mw 958 f)] ++ ws_3) H := by rw [he_8] at hP; exact hP
    have hD : va_D A ([(rf_RW ct 0 ma 958 fa), (mu, .inl (ct 1, 42, .inr (.inl su))), (mv, .inl (ct 1, 42, .inr (.inl sv))), (rf_MO mo mw ma mf m0 m1 mu mv u0 u1 iz (0) mb mn mpt mbg mwr mwk mlf men), (rf_RW ct 0 mw 958 f)] ++ ws_3) := by rw [he_8] at hD; exact hD
    refine lv_if_eq (tgt := 10) hx hb dX11_tripsIn_5 (by decide) (fun _ => ?_) (fun hc => absurd (by decide) hc)
    refine lv_aload_n hx hb dX11_tripsIn_10 rfl (lv_at hl 0 rfl) ?_
    refine lv_iload_n hx hb dX11_tripsIn_11 rfl (lv_at hl 1 rfl) ?_
    refine lv_iconst (v := 1) hx hb dX11_tripsIn_12 (by decide) ?_
    obtain ⟨hP, hD⟩ := ty_ipPD (E1 := [(rf_RW ct 0 ma 958 fa), (mu, .inl (ct 1, 42, .inr (.inl su))), (mv, .inl (ct 1, 42, .inr (.inl sv)))]) (E2 := [(rf_MO mo mw ma mf m0 m1 mu mv u0 u1 iz (0) mb mn mpt mbg mwr mwk mlf men), (rf_RW ct 0 mw 958 f)]) hP hD rfl ty_mva
    refine ty_Ki hP hD hS hA (va_runV (As := [.int p1, .int 1]) (rest := []) ⟨hx, hb, hml, hown, hts⟩ (m_X11_isIn l D ct S ws_3 ph xx mo mw ma mf m0 m1 mu mv u0 u1 iz mb (0 : Int32) mn mpt mbg mwr mwk mlf men f G (-1) p1 (1 : Int32) _ hT hph hy1 hR hz_6.1) (cm_V 2 hts kc_X11_isIn ki_RX11 kl_RX11_350 kv_X11_isIn kx_X11_isIn kd_X11_isIn ⟨Nat.le_of_ble_eq_true rfl, Nat.le_of_ble_eq_true rfl⟩) (ty_preE (ci := 11) (q0 := 3) hP hK hD hS hA hX rfl rfl) rfl rfl hl.1 rfl (lv_room (Nat.le_of_ble_eq_true rfl)) dX11_tripsIn_13 ⟨Nat.le_of_ble_eq_true rfl, Nat.le_of_ble_eq_true rfl⟩) (fun r_9 u H locs hw_10 hP hD hS => ?_)
    obtain ⟨ws_11, rfl⟩ : ∃ z, z = u := ⟨_, rfl⟩
    obtain ⟨hT, hp_12⟩ := hw_10
    have hp_12 : ((r_9 = 0 ∧ ¬ rf_of f p1 0 = (1 : Int32)) ∨ (r_9 = 1 ∧ rf_of f p1 0 = (1 : Int32))) := hp_12
    obtain ⟨hP, hD⟩ := ty_shPD (w2 := ([(rf_RW ct 0 ma 958 fa), (mu, .inl (ct 1, 42, .inr (.inl su))), (mv, .inl (ct 1, 42, .inr (.inl sv))), (rf_MO mo mw ma mf m0 m1 mu mv u0 u1 iz (0) mb mn mpt mbg mwr mwk mlf men), (rf_RW ct 0 mw 958 f)] ++ ws_11)) hP hD rfl
    rcases hp_12 with ⟨rfl, hz_13⟩ | ⟨rfl, hz_14⟩
    · refine lv_if_eq (tgt := 28) hx hb dX11_tripsIn_16 (by decide) (fun _ => ?_) (fun hc => absurd (by decide) hc)
      refine lv_iconst (v := (-1)) hx hb dX11_tripsIn_28 (by decide) ?_
      obtain ⟨hP, hD⟩ := ty_ordPD (E2 := [(rf_MO mo mw ma mf m0 m1 mu mv u0 u1 iz (0) mb mn mpt mbg mwr mwk mlf men), (rf_RW ct 0 mw 958 f), (rf_RW ct 0 ma 958 fa), (mu, .inl (ct 1, 42, .inr (.inl su))), (mv, .inl (ct 1, 42, .inr (.inl sv)))]) (n := 5) [3, 4, 0, 1, 2] hP hD rfl rfl (by decide +kernel)
      exact W.iret (v := (-1)) hx hb hr (fun t ht hW => ⟨⟨(-1), (ws_11, men, (0 : Int32), f, fa, su, sv), rfl, ⟨hT, ⟨⟨th1_4, trivial, (Or.inl ⟨hz_6, (Or.inl ⟨hz_13, ⟨rfl, rfl, rfl, rfl, rfl, rfl, rfl⟩⟩)⟩)⟩, ⟨(rf_dr f), hR⟩⟩⟩, by rw [ht]; exact hP, by rw [hAe]; exact hD⟩, hS.F ht⟩) hS.2.2 dX11_tripsIn_29
    · refine lv_if_eq (tgt := 28) hx hb dX11_tripsIn_16 (by decide) (fun hc => absurd hc (by decide)) (fun _ => ?_)
      refine lv_aload_n hx hb dX11_tripsIn_19 rfl (lv_at hl 0 rfl) ?_
      refine lv_iload_n hx hb dX11_tripsIn_20 rfl (lv_at hl 1 rfl) ?_
      refine lv_iconst (v := 4) hx hb dX11_tripsIn_21 (by decide) ?_
      obtain ⟨hP, hD⟩ := ty_opPD (E1 := []) (E2 := [(rf_MO mo mw ma mf m0 m1 mu mv u0 u1 iz (0) mb mn mpt mbg mwr mwk mlf men), (rf_RW ct 0 mw 958 f), (rf_RW ct 0 ma 958 fa), (mu, .inl (ct 1, 42, .inr (.inl su))), (mv, .inl (ct 1, 42, .inr (.inl sv)))]) (n := 5) [3, 4, 0, 1, 2] hP hD rfl rfl (by decide +kernel) ty_mva
      refine ty_Ki hP hD hS hA (va_runV (As := [.int p1, .int 4]) (rest := []) ⟨hx, hb, hml, hown, hts⟩ (m_X11_untilAside l D ct S ws_11 ph xx mo mw ma mf m0 m1 mu mv u0 u1 iz mb (0 : Int32) mn mpt mbg mwr mwk mlf men f G fa su sv p1 (4 : Int32) _ hT hph hy1 hy11 hR hz_6.1) (cm_V 2 hts kc_X11_untilAside ki_RX11 kl_RX11_391 kv_X11_untilAside kx_X11_untilAside kd_X11_untilAside ⟨Nat.le_of_ble_eq_true rfl, Nat.le_of_ble_eq_true rfl⟩) (ty_preE (ci := 11) (q0 := 0) hP hK hD hS hA hX rfl rfl) rfl rfl hl.1 rfl (lv_room (Nat.le_of_ble_eq_true rfl)) dX11_tripsIn_22 ⟨Nat.le_of_ble_eq_true rfl, Nat.le_of_ble_eq_true rfl⟩) (fun r_15 u H locs hw_16 hP hD hS => ?_)
      obtain ⟨ws_17, men1_18, f1_19, fa1_20, su1_21, sv1_22⟩ := u
      obtain ⟨hT, hp_23⟩ := hw_16
      have hp_23 : (q_X11_untilAside f G su p1 (4 : Int32) r_15 men1_18 f1_19 fa1_20 su1_21 sv1_22) ∧ rf_d (f 8) f f1_19 ∧ rf_R G (-1) f1_19 := hp_23
      obtain ⟨hq_24, hp_25⟩ := hp_23
      obtain ⟨hd_26, hq_27⟩ := hp_25
      have hD_28 := rf_dt (rf_dr f) hd_26
      have hR_29 := hq_27
      obtain ⟨hP, hD⟩ := ty_shPD (w2 := ([(rf_MO mo mw ma mf m0 m1 mu mv u0 u1 iz (0) mb mn mpt mbg mwr mwk mlf men1_18), (rf_RW ct 0 mw 958 f1_19), (rf_RW ct 0 ma 958 fa1_20), (mu, .inl (ct 1, 42, .inr (.inl su1_21))), (mv, .inl (ct 1, 42, .inr (.inl sv1_22)))] ++ ws_17)) hP hD rfl
      refine lv_goto (tgt := 29) hx hb dX11_tripsIn_25 (by decide) ?_
      exact W.iret (v := r_15) hx hb hr (fun t ht hW => ⟨⟨r_15, (ws_17, men1_18, (0 : Int32), f1_19, fa1_20, su1_21, sv1_22), rfl, ⟨hT, ⟨⟨th1_4, trivial, (Or.inl ⟨hz_6, (Or.inr ⟨hz_14, ⟨r_15, men1_18, f1_19, fa1_20, su1_21, sv1_22, hq_24, ⟨rfl, rfl, rfl, rfl, rfl, rfl, rfl⟩⟩⟩)⟩)⟩, ⟨hD_28, hR_29⟩⟩⟩, by rw [ht]; exact hP, by rw [hAe]; exact hD⟩, hS.F ht⟩) hS.2.2 dX11_tripsIn_29
  · have he_31 := hz_7.2
    have hP : va_P D vwCl ([(rf_RW ct 0 ma 958 fa), (mu, .inl (ct 1, 42, .inr (.inl su))), (mv, .inl (ct 1, 42, .inr (.inl sv))), (rf_MO mo mw ma mf m0 m1 mu mv u0 u1 iz (1) mb mn mpt mbg mwr mwk mlf men), (rf_RW ct 0 mw 958 f)] ++ ws_3) H := by rw [he_31] at hP; exact hP
    have hD : va_D A ([(rf_RW ct 0 ma 958 fa), (mu, .inl (ct 1, 42, .inr (.inl su))), (mv, .inl (ct 1, 42, .inr (.inl sv))), (rf_MO mo mw ma mf m0 m1 mu mv u0 u1 iz (1) mb mn mpt mbg mwr mwk mlf men), (rf_RW ct 0 mw 958 f)] ++ ws_3) := by rw [he_31] at hD; exact hD
    refine lv_if_eq (tgt := 10) hx hb dX11_tripsIn_5 (by decide) (fun hc => absurd hc (by decide)) (fun _ => ?_)
    refine lv_iconst (v := 0) hx hb dX11_tripsIn_8 (by decide) ?_
    obtain ⟨hP, hD⟩ := ty_ordPD (E2 := [(rf_MO mo mw ma mf m0 m1 mu mv u0 u1 iz (1) mb mn mpt mbg mwr mwk mlf men), (rf_RW ct 0 mw 958 f), (rf_RW ct 0 ma 958 fa), (mu, .inl (ct 1, 42, .inr (.inl su))), (mv, .inl (ct 1, 42, .inr (.inl sv)))]) (n := 5) [3, 4, 0, 1, 2] hP hD rfl rfl (by decide +kernel)
    exact W.iret (v := 0) hx hb hr (fun t ht hW => ⟨⟨0, (ws_3, men, (1 : Int32), f, fa, su, sv), rfl, ⟨hT, ⟨⟨th1_4, trivial, (Or.inr ⟨hz_7, ⟨rfl, rfl, rfl, rfl, rfl, rfl, rfl⟩⟩)⟩, ⟨(rf_dr f), hR⟩⟩⟩, by rw [ht]; exact hP, by rw [hAe]; exact hD⟩, hS.F ht⟩) hS.2.2 dX11_tripsIn_9
def q_X11_stepEndsIn (men : Int32) (f : Nat → Int32) (G : Nat → Int32) (fa : Nat → Int32) (su : Nat → Int64) (sv : Nat → Int64) (p1 : Int32) (r : Int32) (men1 : Int32) (th1 : Int32) (f1 : Nat → Int32) (fa1 : Nat → Int32) (su1 : Nat → Int64) (sv1 : Nat → Int64) : Prop := (∃ (th1_4 : Int32), True ∧ ((((0 ≤ p1.toInt ∧ p1.toInt < (G 9).toInt) ∧ th1_4 = 0) ∧ ((¬ rf_of f p1 0 = (1 : Int32) ∧ (r = (-1) ∧ men1 = men ∧ th1 = 0 ∧ f1 = f ∧ fa1 = fa ∧ su1 = su ∧ sv1 = sv)) ∨ (rf_of f p1 0 = (1 : Int32) ∧ (∃ (fa1_18 : Nat → Int32) (sv1_19 : Nat → Int64), (q_eq 958 f fa1_18 ∧ q_cs su sv1_19) ∧ (∃ (y_21 : Int32) (y_22 : Int32) (f_23 : Nat → Int32) (g_24 : Nat → Int64), ((0 ≤ y_21.toInt ∧ y_21.toInt ≤ 20000) ∧ q_ch G p1 (fun e g => e = 0 ∧ rf_of g p1 0 = 1) y_21.toInt.toNat 0 f su y_22 f_23 g_24) ∧ ((¬ y_22 = (0 : Int32) ∧ ((y_22 ≤ (0 : Int32) ∧ (∃ (f1_30 : Nat → Int32) (su1_31 : Nat → Int64), (q_eq 958 fa1_18 f1_30 ∧ q_cs sv1_19 su1_31) ∧ (r = (-1) ∧ men1 = y_22 ∧ th1 = 0 ∧ f1 = f1_30 ∧ fa1 = fa1_18 ∧ su1 = su1_31 ∧ sv1 = sv1_19))) ∨ (¬ y_22 ≤ (0 : Int32) ∧ (∃ (f1_39 : Nat → Int32) (su1_40 : Nat → Int64), (q_eq 958 fa1_18 f1_39 ∧ q_cs sv1_19 su1_40) ∧ (r = y_21 ∧ men1 = y_22 ∧ th1 = 0 ∧ f1 = f1_39 ∧ fa1 = fa1_18 ∧ su1 = su1_40 ∧ sv1 = sv1_19))))) ∨ (y_22 = (0 : Int32) ∧ ((¬ rf_of f_23 p1 0 = (1 : Int32) ∧ ((y_22 ≤ (0 : Int32) ∧ (∃ (f1_55 : Nat → Int32) (su1_56 : Nat → Int64), (q_eq 958 fa1_18 f1_55 ∧ q_cs sv1_19 su1_56) ∧ (r = (-1) ∧ men1 = y_22 ∧ th1 = 0 ∧ f1 = f1_55 ∧ fa1 = fa1_18 ∧ su1 = su1_56 ∧ sv1 = sv1_19))) ∨ (¬ y_22 ≤ (0 : Int32) ∧ (∃ (f1_64 : Nat → Int32) (su1_65 : Nat → Int64), (q_eq 958 fa1_18 f1_64 ∧ q_cs sv1_19 su1_65) ∧ (r = y_21 ∧ men1 = y_22 ∧ th1 = 0 ∧ f1 = f1_64 ∧ fa1 = fa1_18 ∧ su1 = su1_65 ∧ sv1 = sv1_19))))) ∨ (rf_of f_23 p1 0 = (1 : Int32) ∧ ((20000 : Int32) ≤ y_21 ∧ ((y_22 ≤ (0 : Int32) ∧ (∃ (f1_75 : Nat → Int32) (su1_76 : Nat → Int64), (q_eq 958 fa1_18 f1_75 ∧ q_cs sv1_19 su1_76) ∧ (r = (-1) ∧ men1 = y_22 ∧ th1 = 0 ∧ f1 = f1_75 ∧ fa1 = fa1_18 ∧ su1 = su1_76 ∧ sv1 = sv1_19))) ∨ (¬ y_22 ≤ (0 : Int32) ∧ (∃ (f1_84 : Nat → Int32) (su1_85 : Nat → Int64), (q_eq 958 fa1_18 f1_84 ∧ q_cs sv1_19 su1_85) ∧ (r = y_21 ∧ men1 = y_22 ∧ th1 = 0 ∧ f1 = f1_84 ∧ fa1 = fa1_18 ∧ su1 = su1_85 ∧ sv1 = sv1_19)))))))))))))) ∨ ((¬ (0 ≤ p1.toInt ∧ p1.toInt < (G 9).toInt) ∧ th1_4 = 1) ∧ (r = 0 ∧ men1 = men ∧ th1 = 1 ∧ f1 = f ∧ fa1 = fa ∧ su1 = su ∧ sv1 = sv))))
set_option maxRecDepth 100000 in
set_option maxHeartbeats 4000000 in
theorem m_X11_stepEndsIn (l : Launch) (D : va_G) (ct : Nat → ClassId) (S : ty_S) (ws : va_W) (ph : va_W → Prop) (xx : Nat → Nat → Nat → Prop) (mo : Nat) (mw : Nat) (ma : Nat) (mf : Nat) (m0 : Nat) (m1 : Nat) (mu : Nat) (mv : Nat) (u0 : Nat) (u1 : Nat) (iz : Nat) (mb : Nat) (th : Int32) (mn : Int32) (mpt : Int32) (mbg : Int32) (mwr : Int32) (mwk : Int32) (mlf : Int32) (men : Int32) (f : Nat → Int32) (G : Nat → Int32) (fa : Nat → Int32) (su : Nat → Int64) (sv : Nat → Int64) (p1 : Int32) (sz : Nat) (hT : ty_V ct S ph ws) (hph : ty_C ph xx) (hy1 : ty_y1 xx) (hy11 : ty_y0 xx 11) (hR : rf_R G (-1) f) : Met l yX11_stepEndsIn (ws_ yX11_stepEndsIn cX11_stepEndsIn 4 (some .int)) ({ frames := 8, cells := 0, slots := 0, locals := 186 } : Room) (va_Pc [.ref mo, .int p1] (cmP D ct sz ([(rf_MO mo mw ma mf m0 m1 mu mv u0 u1 iz th mb mn mpt mbg mwr mwk mlf men), (rf_RW ct 0 mw 958 f), (rf_RW ct 0 ma 958 fa), (mu, .inl (ct 1, 42, .inr (.inl su))), (mv, .inl (ct 1, 42, .inr (.inl sv)))] ++ ws))) (va_Qi (fun (r : Int32) (u : va_W × Int32 × Int32 × (Nat → Int32) × (Nat → Int32) × (Nat → Int64) × (Nat → Int64)) => match u with | (u9, men1, th1, f1, fa1, su1, sv1) => ty_V ct S ph u9 ∧ (q_X11_stepEndsIn men f G fa su sv p1 r men1 th1 f1 fa1 su1 sv1) ∧ rf_d (f 8) f f1 ∧ rf_R G (-1) f1) (cmB D ([(rf_MO mo mw ma mf m0 m1 mu mv u0 u1 iz th mb mn mpt mbg mwr mwk mlf men), (rf_RW ct 0 mw 958 f), (rf_RW ct 0 ma 958 fa), (mu, .inl (ct 1, 42, .inr (.inl su))), (mv, .inl (ct 1, 42, .inr (.inl sv)))] ++ ws) sz (fun (u : va_W × Int32 × Int32 × (Nat → Int32) × (Nat → Int32) × (Nat → Int64) × (Nat → Int64)) => match u with | (u9, men1, th1, f1, fa1, su1, sv1) => ([(rf_MO mo mw ma mf m0 m1 mu mv u0 u1 iz th1 mb mn mpt mbg mwr mwk mlf men1), (rf_RW ct 0 mw 958 f1), (rf_RW ct 0 ma 958 fa1), (mu, .inl (ct 1, 42, .inr (.inl su1))), (mv, .inl (ct 1, 42, .inr (.inl sv1)))] ++ u9))) (va_A ([(rf_MO mo mw ma mf m0 m1 mu mv u0 u1 iz th mb mn mpt mbg mwr mwk mlf men), (rf_RW ct 0 mw 958 f), (rf_RW ct 0 ma 958 fa), (mu, .inl (ct 1, 42, .inr (.inl su))), (mv, .inl (ct 1, 42, .inr (.inl sv)))] ++ ws) sz)) 0 0 (va_A ([(rf_MO mo mw ma mf m0 m1 mu mv u0 u1 iz th mb mn mpt mbg mwr mwk mlf men), (rf_RW ct 0 mw 958 f), (rf_RW ct 0 ma 958 fa), (mu, .inl (ct 1, 42, .inr (.inl su))), (mv, .inl (ct 1, 42, .inr (.inl sv)))] ++ ws) sz) := by
  refine Met.ofW (cc := cX11_stepEndsIn) (maxL := 4) (ret := (some .int)) (by decide) rfl ?_
  intro p e s m args below meth c s₁ B hml hv
  obtain ⟨rfl, hsz, hP, hK, hD0, hX⟩ := hv
  have hx := B.exec
  have hb := B.bytes
  have hr := B.returns
  have hts := ws_all (atoms_spec (ws := ws_ yX11_stepEndsIn cX11_stepEndsIn 4 (some .int)) B.pre)
  have hown : s.vm.findClass RX11 = some m.cls := findClass_of_methodNamed B.named
  have hlocks := B.notSynchronized
  subst hsz
  have hD := hD0.self (sz := s.heap.size)
  generalize hAe : va_A ([(rf_MO mo mw ma mf m0 m1 mu mv u0 u1 iz th mb mn mpt mbg mwr mwk mlf men), (rf_RW ct 0 mw 958 f), (rf_RW ct 0 ma 958 fa), (mu, .inl (ct 1, 42, .inr (.inl su))), (mv, .inl (ct 1, 42, .inr (.inl sv)))] ++ ws) s.heap.size = A at hD hX ⊢
  have hA : ∀ q : Nat, s.heap.size ≤ q → A q := fun q h => by rw [← hAe]; exact Or.inr h
  have hS : va_S A s.heap s.heap [] := va_S.rf
  have hl := lv_entry ([.ref mo, .int p1]) (n := 4) (Nat.le_of_ble_eq_true rfl)
  rw [lg_entry_eq]
  generalize (lg_sl ([.ref mo, .int p1]) ++ List.replicate (4 - (lg_sl ([.ref mo, .int p1])).length) Slot.unset).toArray = ls at hl ⊢
  have hl : lv_has ls 4 [(0, .ref mo), (1, .int p1)] := hl
  refine lv_aload_n hx hb dX11_stepEndsIn_0 rfl (lv_at hl 0 rfl) ?_
  refine lv_iload_n hx hb dX11_stepEndsIn_1 rfl (lv_at hl 1 rfl) ?_
  obtain ⟨hP, hD⟩ := ty_opPD (E1 := [(rf_RW ct 0 ma 958 fa), (mu, .inl (ct 1, 42, .inr (.inl su))), (mv, .inl (ct 1, 42, .inr (.inl sv)))]) (E2 := [(rf_MO mo mw ma mf m0 m1 mu mv u0 u1 iz th mb mn mpt mbg mwr mwk mlf men), (rf_RW ct 0 mw 958 f)]) (n := 5) [2, 3, 4, 0, 1] hP hD rfl rfl (by decide +kernel) ty_mva
  refine ty_Ki hP hD hS hA (va_runV (As := [.int p1]) (rest := []) ⟨hx, hb, hml, hown, hts⟩ (m_X11_noChannel l D ct S ws ph xx mo mw ma mf m0 m1 mu mv u0 u1 iz mb th mn mpt mbg mwr mwk mlf men f G (-1) p1 _ hT hph hy1 hR) (cm_V 1 hts kc_X11_noChannel ki_RX11 kl_RX11_344 kv_X11_noChannel kx_X11_noChannel kd_X11_noChannel ⟨Nat.le_of_ble_eq_true rfl, Nat.le_of_ble_eq_true rfl⟩) (ty_preE (ci := 11) (q0 := 3) hP hK hD hS hA hX rfl rfl) rfl rfl hl.1 rfl (lv_room (Nat.le_of_ble_eq_true rfl)) dX11_stepEndsIn_2 ⟨Nat.le_of_ble_eq_true rfl, Nat.le_of_ble_eq_true rfl⟩) (fun r_1 u H locs hw_2 hP hD hS => ?_)
  obtain ⟨ws_3, th1_4⟩ := u
  obtain ⟨hT, hp_5⟩ := hw_2
  have hp_5 : ((r_1 = 0 ∧ (0 ≤ p1.toInt ∧ p1.toInt < (G 9).toInt) ∧ th1_4 = 0) ∨ (r_1 = 1 ∧ ¬ (0 ≤ p1.toInt ∧ p1.toInt < (G 9).toInt) ∧ th1_4 = 1)) := hp_5
  obtain ⟨hP, hD⟩ := ty_shPD (w2 := ([(rf_RW ct 0 ma 958 fa), (mu, .inl (ct 1, 42, .inr (.inl su))), (mv, .inl (ct 1, 42, .inr (.inl sv))), (rf_MO mo mw ma mf m0 m1 mu mv u0 u1 iz th1_4 mb mn mpt mbg mwr mwk mlf men), (rf_RW ct 0 mw 958 f)] ++ ws_3)) hP hD rfl
  rcases hp_5 with ⟨rfl, hz_6⟩ | ⟨rfl, hz_7⟩
  · have he_8 := hz_6.2
    have hP : va_P D vwCl ([(rf_RW ct 0 ma 958 fa), (mu, .inl (ct 1, 42, .inr (.inl su))), (mv, .inl (ct 1, 42, .inr (.inl sv))), (rf_MO mo mw ma mf m0 m1 mu mv u0 u1 iz (0) mb mn mpt mbg mwr mwk mlf men), (rf_RW ct 0 mw 958 f)] ++ ws_3) H := by rw [he_8] at hP; exact hP
    have hD : va_D A ([(rf_RW ct 0 ma 958 fa), (mu, .inl (ct 1, 42, .inr (.inl su))), (mv, .inl (ct 1, 42, .inr (.inl sv))), (rf_MO mo mw ma mf m0 m1 mu mv u0 u1 iz (0) mb mn mpt mbg mwr mwk mlf men), (rf_RW ct 0 mw 958 f)] ++ ws_3) := by rw [he_8] at hD; exact hD
    refine lv_if_eq (tgt := 10) hx hb dX11_stepEndsIn_5 (by decide) (fun _ => ?_) (fun hc => absurd (by decide) hc)
    refine lv_aload_n hx hb dX11_stepEndsIn_10 rfl (lv_at hl 0 rfl) ?_
    refine lv_iload_n hx hb dX11_stepEndsIn_11 rfl (lv_at hl 1 rfl) ?_
    refine lv_iconst (v := 1) hx hb dX11_stepEndsIn_12 (by decide) ?_
    obtain ⟨hP, hD⟩ := ty_ipPD (E1 := [(rf_RW ct 0 ma 958 fa), (mu, .inl (ct 1, 42, .inr (.inl su))), (mv, .inl (ct 1, 42, .inr (.inl sv)))]) (E2 := [(rf_MO mo mw ma mf m0 m1 mu mv u0 u1 iz (0) mb mn mpt mbg mwr mwk mlf men), (rf_RW ct 0 mw 958 f)]) hP hD rfl ty_mva
    refine ty_Ki hP hD hS hA (va_runV (As := [.int p1, .int 1]) (rest := []) ⟨hx, hb, hml, hown, hts⟩ (m_X11_isIn l D ct S ws_3 ph xx mo mw ma mf m0 m1 mu mv u0 u1 iz mb (0 : Int32) mn mpt mbg mwr mwk mlf men f G (-1) p1 (1 : Int32) _ hT hph hy1 hR hz_6.1) (cm_V 2 hts kc_X11_isIn ki_RX11 kl_RX11_350 kv_X11_isIn kx_X11_isIn kd_X11_isIn ⟨Nat.le_of_ble_eq_true rfl, Nat.le_of_ble_eq_true rfl⟩) (ty_preE (ci := 11) (q0 := 3) hP hK hD hS hA hX rfl rfl) rfl rfl hl.1 rfl (lv_room (Nat.le_of_ble_eq_true rfl)) dX11_stepEndsIn_13 ⟨Nat.le_of_ble_eq_true rfl, Nat.le_of_ble_eq_true rfl⟩) (fun r_9 u H locs hw_10 hP hD hS => ?_)
    obtain ⟨ws_11, rfl⟩ : ∃ z, z = u := ⟨_, rfl⟩
    obtain ⟨hT, hp_12⟩ := hw_10
    have hp_12 : ((r_9 = 0 ∧ ¬ rf_of f p1 0 = (1 : Int32)) ∨ (r_9 = 1 ∧ rf_of f p1 0 = (1 : Int32))) := hp_12
    obtain ⟨hP, hD⟩ := ty_shPD (w2 := ([(rf_RW ct 0 ma 958 fa), (mu, .inl (ct 1, 42, .inr (.inl su))), (mv, .inl (ct 1, 42, .inr (.inl sv))), (rf_MO mo mw ma mf m0 m1 mu mv u0 u1 iz (0) mb mn mpt mbg mwr mwk mlf men), (rf_RW ct 0 mw 958 f)] ++ ws_11)) hP hD rfl
    rcases hp_12 with ⟨rfl, hz_13⟩ | ⟨rfl, hz_14⟩
    · refine lv_if_ne (tgt := 21) hx hb dX11_stepEndsIn_16 (by decide) (fun hc => absurd (by decide) hc) (fun _ => ?_)
      refine lv_iconst (v := (-1)) hx hb dX11_stepEndsIn_19 (by decide) ?_
      obtain ⟨hP, hD⟩ := ty_ordPD (E2 := [(rf_MO mo mw ma mf m0 m1 mu mv u0 u1 iz (0) mb mn mpt mbg mwr mwk mlf men), (rf_RW ct 0 mw 958 f), (rf_RW ct 0 ma 958 fa), (mu, .inl (ct 1, 42, .inr (.inl su))), (mv, .inl (ct 1, 42, .inr (.inl sv)))]) (n := 5) [3, 4, 0, 1, 2] hP hD rfl rfl (by decide +kernel)
      exact W.iret (v := (-1)) hx hb hr (fun t ht hW => ⟨⟨(-1), (ws_11, men, (0 : Int32), f, fa, su, sv), rfl, ⟨hT, ⟨⟨th1_4, trivial, (Or.inl ⟨hz_6, (Or.inl ⟨hz_13, ⟨rfl, rfl, rfl, rfl, rfl, rfl, rfl⟩⟩)⟩)⟩, ⟨(rf_dr f), hR⟩⟩⟩, by rw [ht]; exact hP, by rw [hAe]; exact hD⟩, hS.F ht⟩) hS.2.2 dX11_stepEndsIn_20
    · refine lv_if_ne (tgt := 21) hx hb dX11_stepEndsIn_16 (by decide) (fun _ => ?_) (fun hc => absurd hc (by decide))
      refine lv_aload_n hx hb dX11_stepEndsIn_21 rfl (lv_at hl 0 rfl) ?_
      obtain ⟨hP, hD⟩ := ty_opPD (E1 := []) (E2 := [(rf_MO mo mw ma mf m0 m1 mu mv u0 u1 iz (0) mb mn mpt mbg mwr mwk mlf men), (rf_RW ct 0 mw 958 f), (rf_RW ct 0 ma 958 fa), (mu, .inl (ct 1, 42, .inr (.inl su))), (mv, .inl (ct 1, 42, .inr (.inl sv)))]) (n := 5) [3, 4, 0, 1, 2] hP hD rfl rfl (by decide +kernel) ty_mva
      refine ty_Kv hP hD hS hA (va_runV (As := []) (rest := []) ⟨hx, hb, hml, hown, hts⟩ (m_X11_goesAside l D ct S ws_11 ph xx mo mw ma mf m0 m1 mu mv u0 u1 iz mb (0 : Int32) mn mpt mbg mwr mwk mlf men f G fa su sv _ hT hph hy1 hy11 hR) (cm_V 0 hts kc_X11_goesAside ki_RX11 kl_RX11_379 kv_X11_goesAside kx_X11_goesAside kd_X11_goesAside ⟨Nat.le_of_ble_eq_true rfl, Nat.le_of_ble_eq_true rfl⟩) (ty_preE (ci := 11) (q0 := 0) hP hK hD hS hA hX rfl rfl) rfl rfl hl.1 rfl (lv_room (Nat.le_of_ble_eq_true rfl)) dX11_stepEndsIn_22 ⟨Nat.le_of_ble_eq_true rfl, Nat.le_of_ble_eq_true rfl⟩) (fun u H locs hw_16 hP hD hS => ?_)
      obtain ⟨ws_17, fa1_18, sv1_19⟩ := u
      obtain ⟨hT, hp_20⟩ := hw_16
      have hp_20 : (rf_R G (-1) fa1_18 ∧ rf_d (f 8) f fa1_18) ∧ q_eq 958 f fa1_18 ∧ q_cs su sv1_19 := hp_20
      obtain ⟨hP, hD⟩ := ty_shPD (w2 := ([(rf_MO mo mw ma mf m0 m1 mu mv u0 u1 iz (0) mb mn mpt mbg mwr mwk mlf (0)), (rf_RW ct 0 mw 958 f), (rf_RW ct 0 ma 958 fa1_18), (mu, .inl (ct 1, 42, .inr (.inl su))), (mv, .inl (ct 1, 42, .inr (.inl sv1_19)))] ++ ws_17)) hP hD rfl
      refine lv_iconst (v := 0) hx hb dX11_stepEndsIn_25 (by decide) ?_
      refine lv_istore_n (lv' := [(2, .int 0), (0, .ref mo), (1, .int p1)]) hx hb dX11_stepEndsIn_26 rfl hl (by decide) rfl (fun ls hl => ?_)
      refine ty_loop (I := fun μ H locs ls => ∃ (ws : va_W) (y_21 : Int32) (y_22 : Int32) (f_23 : Nat → Int32) (g_24 : Nat → Int64), μ = (2147483648 - y_21.toInt).toNat ∧ ty_V ct S ph ws ∧ va_P D vwCl ([(rf_MO mo mw ma mf m0 m1 mu mv u0 u1 iz (0) mb mn mpt mbg mwr mwk mlf y_22), (rf_RW ct 0 mw 958 f_23), (rf_RW ct 0 ma 958 fa1_18), (mu, .inl (ct 1, 42, .inr (.inl g_24))), (mv, .inl (ct 1, 42, .inr (.inl sv1_19)))] ++ ws) H ∧ va_D A ([(rf_MO mo mw ma mf m0 m1 mu mv u0 u1 iz (0) mb mn mpt mbg mwr mwk mlf y_22), (rf_RW ct 0 mw 958 f_23), (rf_RW ct 0 ma 958 fa1_18), (mu, .inl (ct 1, 42, .inr (.inl g_24))), (mv, .inl (ct 1, 42, .inr (.inl sv1_19)))] ++ ws) ∧ va_S A s.heap H locs ∧ lv_has ls 4 [(0, .ref mo), (1, .int p1), (2, .int y_21)] ∧ rf_R G (-1) f_23 ∧ (0 ≤ y_21.toInt ∧ y_21.toInt ≤ 20000) ∧ q_ch G p1 (fun e g => e = 0 ∧ rf_of g p1 0 = 1) y_21.toInt.toNat 0 f su y_22 f_23 g_24) ⟨_, ws_17, (0 : Int32), (0 : Int32), f, su, rfl, hT, hP, hD, hS, (lv_sub hl [1, 2, 0] rfl), hR, ⟨⟨by decide, by decide⟩, q_ch0⟩⟩ (fun μ H locs ls hI ih_27 => ?_)
      obtain ⟨ws, y_21, y_22, f_23, g_24, rfl, hT, hP, hD, hS, hl, hR_27, hex_27⟩ := hI
      refine lv_aload_n hx hb dX11_stepEndsIn_27 rfl (lv_at hl 0 rfl) ?_
      refine va_get (v := .int y_22) (D := D) (ci := 11) (C := RX11) (T := TX11) (N := 19) hx hb hts in_X11 hown hK hP 0 rfl rfl 18 (by decide) (hts _ kl_RX11_300) (fun _ h9 => h9) rfl dX11_stepEndsIn_28 ?_
      refine lv_if_ne (tgt := 61) hx hb dX11_stepEndsIn_31 (by decide) (fun hc_25 => ?_) (fun hc_25 => ?_)
      · refine lv_aload_n hx hb dX11_stepEndsIn_61 rfl (lv_at hl 0 rfl) ?_
        refine va_get (v := .int y_22) (D := D) (ci := 11) (C := RX11) (T := TX11) (N := 19) hx hb hts in_X11 hown hK hP 0 rfl rfl 18 (by decide) (hts _ kl_RX11_300) (fun _ h9 => h9) rfl dX11_stepEndsIn_62 ?_
        refine lv_if_le (tgt := 72) hx hb dX11_stepEndsIn_65 (by decide) (fun hc_26 => ?_) (fun hc_26 => ?_)
        · refine lv_iconst (v := (-1)) hx hb dX11_stepEndsIn_72 (by decide) ?_
          refine lv_istore_n (lv' := [(3, .int (-1)), (0, .ref mo), (1, .int p1), (2, .int y_21)]) hx hb dX11_stepEndsIn_73 rfl hl (by decide) rfl (fun ls hl => ?_)
          refine lv_aload_n hx hb dX11_stepEndsIn_74 rfl (lv_at hl 1 rfl) ?_
          obtain ⟨hP, hD⟩ := ty_ipPD (E1 := []) (E2 := [(rf_MO mo mw ma mf m0 m1 mu mv u0 u1 iz (0) mb mn mpt mbg mwr mwk mlf y_22), (rf_RW ct 0 mw 958 f_23), (rf_RW ct 0 ma 958 fa1_18), (mu, .inl (ct 1, 42, .inr (.inl g_24))), (mv, .inl (ct 1, 42, .inr (.inl sv1_19)))]) hP hD rfl ty_mva
          refine ty_Kv hP hD hS hA (va_runV (As := []) (rest := []) ⟨hx, hb, hml, hown, hts⟩ (m_X11_comesBack l D ct S ws ph xx mo mw ma mf m0 m1 mu mv u0 u1 iz mb (0 : Int32) mn mpt mbg mwr mwk mlf y_22 f_23 G fa1_18 g_24 sv1_19 _ hT hph hy1 hy11 hp_20.1.1) (cm_V 0 hts kc_X11_comesBack ki_RX11 kl_RX11_385 kv_X11_comesBack kx_X11_comesBack kd_X11_comesBack ⟨Nat.le_of_ble_eq_true rfl, Nat.le_of_ble_eq_true rfl⟩) (ty_preE (ci := 11) (q0 := 0) hP hK hD hS hA hX rfl rfl) rfl rfl hl.1 rfl (lv_room (Nat.le_of_ble_eq_true rfl)) dX11_stepEndsIn_75 ⟨Nat.le_of_ble_eq_true rfl, Nat.le_of_ble_eq_true rfl⟩) (fun u H locs hw_28 hP hD hS => ?_)
          obtain ⟨ws_29, f1_30, su1_31⟩ := u
          obtain ⟨hT, hp_32⟩ := hw_28
          have hp_32 : rf_R G (-1) f1_30 ∧ (rf_d (fa1_18 8) fa1_18 f1_30 ∧ q_eq 958 fa1_18 f1_30 ∧ q_cs sv1_19 su1_31) := hp_32
          have hR_33 := hp_32.1
          obtain ⟨hP, hD⟩ := ty_shPD (w2 := ([(rf_MO mo mw ma mf m0 m1 mu mv u0 u1 iz (0) mb mn mpt mbg mwr mwk mlf y_22), (rf_RW ct 0 mw 958 f1_30), (rf_RW ct 0 ma 958 fa1_18), (mu, .inl (ct 1, 42, .inr (.inl su1_31))), (mv, .inl (ct 1, 42, .inr (.inl sv1_19)))] ++ ws_29)) hP hD rfl
          have hD_35 := rf_dg (rf_dr f) hp_20.1.2 hp_32.2.1
          refine lv_iload_n hx hb dX11_stepEndsIn_78 rfl (lv_at hl 0 rfl) ?_
          exact W.iret (v := (-1)) hx hb hr (fun t ht hW => ⟨⟨(-1), (ws_29, y_22, (0 : Int32), f1_30, fa1_18, su1_31, sv1_19), rfl, ⟨hT, ⟨⟨th1_4, trivial, (Or.inl ⟨hz_6, (Or.inr ⟨hz_14, ⟨fa1_18, sv1_19, hp_20.2, ⟨y_21, y_22, f_23, g_24, hex_27, (Or.inl ⟨hc_25, (Or.inl ⟨hc_26, ⟨f1_30, su1_31, hp_32.2.2, ⟨rfl, rfl, rfl, rfl, rfl, rfl, rfl⟩⟩⟩)⟩)⟩⟩⟩)⟩)⟩, ⟨hD_35, hR_33⟩⟩⟩, by rw [ht]; exact hP, by rw [hAe]; exact hD⟩, hS.F ht⟩) hS.2.2 dX11_stepEndsIn_79
        · refine lv_iload_n hx hb dX11_stepEndsIn_68 rfl (lv_at hl 2 rfl) ?_
          refine lv_goto (tgt := 73) hx hb dX11_stepEndsIn_69 (by decide) ?_
          refine lv_istore_n (lv' := [(3, .int y_21), (0, .ref mo), (1, .int p1), (2, .int y_21)]) hx hb dX11_stepEndsIn_73 rfl hl (by decide) rfl (fun ls hl => ?_)
          refine lv_aload_n hx hb dX11_stepEndsIn_74 rfl (lv_at hl 1 rfl) ?_
          obtain ⟨hP, hD⟩ := ty_ipPD (E1 := []) (E2 := [(rf_MO mo mw ma mf m0 m1 mu mv u0 u1 iz (0) mb mn mpt mbg mwr mwk mlf y_22), (rf_RW ct 0 mw 958 f_23), (rf_RW ct 0 ma 958 fa1_18), (mu, .inl (ct 1, 42, .inr (.inl g_24))), (mv, .inl (ct 1, 42, .inr (.inl sv1_19)))]) hP hD rfl ty_mva
          refine ty_Kv hP hD hS hA (va_runV (As := []) (rest := []) ⟨hx, hb, hml, hown, hts⟩ (m_X11_comesBack l D ct S ws ph xx mo mw ma mf m0 m1 mu mv u0 u1 iz mb (0 : Int32) mn mpt mbg mwr mwk mlf y_22 f_23 G fa1_18 g_24 sv1_19 _ hT hph hy1 hy11 hp_20.1.1) (cm_V 0 hts kc_X11_comesBack ki_RX11 kl_RX11_385 kv_X11_comesBack kx_X11_comesBack kd_X11_comesBack ⟨Nat.le_of_ble_eq_true rfl, Nat.le_of_ble_eq_true rfl⟩) (ty_preE (ci := 11) (q0 := 0) hP hK hD hS hA hX rfl rfl) rfl rfl hl.1 rfl (lv_room (Nat.le_of_ble_eq_true rfl)) dX11_stepEndsIn_75 ⟨Nat.le_of_ble_eq_true rfl, Nat.le_of_ble_eq_true rfl⟩) (fun u H locs hw_37 hP hD hS => ?_)
          obtain ⟨ws_38, f1_39, su1_40⟩ := u
          obtain ⟨hT, hp_41⟩ := hw_37
          have hp_41 : rf_R G (-1) f1_39 ∧ (rf_d (fa1_18 8) fa1_18 f1_39 ∧ q_eq 958 fa1_18 f1_39 ∧ q_cs sv1_19 su1_40) := hp_41
          have hR_42 := hp_41.1
          obtain ⟨hP, hD⟩ := ty_shPD (w2 := ([(rf_MO mo mw ma mf m0 m1 mu mv u0 u1 iz (0) mb mn mpt mbg mwr mwk mlf y_22), (rf_RW ct 0 mw 958 f1_39), (rf_RW ct 0 ma 958 fa1_18), (mu, .inl (ct 1, 42, .inr (.inl su1_40))), (mv, .inl (ct 1, 42, .inr (.inl sv1_19)))] ++ ws_38)) hP hD rfl
          have hD_44 := rf_dg (rf_dr f) hp_20.1.2 hp_41.2.1
          refine lv_iload_n hx hb dX11_stepEndsIn_78 rfl (lv_at hl 0 rfl) ?_
          exact W.iret (v := y_21) hx hb hr (fun t ht hW => ⟨⟨y_21, (ws_38, y_22, (0 : Int32), f1_39, fa1_18, su1_40, sv1_19), rfl, ⟨hT, ⟨⟨th1_4, trivial, (Or.inl ⟨hz_6, (Or.inr ⟨hz_14, ⟨fa1_18, sv1_19, hp_20.2, ⟨y_21, y_22, f_23, g_24, hex_27, (Or.inl ⟨hc_25, (Or.inr ⟨hc_26, ⟨f1_39, su1_40, hp_41.2.2, ⟨rfl, rfl, rfl, rfl, rfl, rfl, rfl⟩⟩⟩)⟩)⟩⟩⟩)⟩)⟩, ⟨hD_44, hR_42⟩⟩⟩, by rw [ht]; exact hP, by rw [hAe]; exact hD⟩, hS.F ht⟩) hS.2.2 dX11_stepEndsIn_79
      · refine lv_aload_n hx hb dX11_stepEndsIn_34 rfl (lv_at hl 0 rfl) ?_
        refine lv_iload_n hx hb dX11_stepEndsIn_35 rfl (lv_at hl 1 rfl) ?_
        refine lv_iconst (v := 1) hx hb dX11_stepEndsIn_36 (by decide) ?_
        obtain ⟨hP, hD⟩ := ty_opPD (E1 := [(rf_RW ct 0 ma 958 fa1_18), (mu, .inl (ct 1, 42, .inr (.inl g_24))), (mv, .inl (ct 1, 42, .inr (.inl sv1_19)))]) (E2 := [(rf_MO mo mw ma mf m0 m1 mu mv u0 u1 iz (0) mb mn mpt mbg mwr mwk mlf y_22), (rf_RW ct 0 mw 958 f_23)]) (n := 5) [2, 3, 4, 0, 1] hP hD rfl rfl (by decide +kernel) ty_mva
        refine ty_Ki hP hD hS hA (va_runV (As := [.int p1, .int 1]) (rest := []) ⟨hx, hb, hml, hown, hts⟩ (m_X11_isIn l D ct S ws ph xx mo mw ma mf m0 m1 mu mv u0 u1 iz mb (0 : Int32) mn mpt mbg mwr mwk mlf y_22 f_23 G (-1) p1 (1 : Int32) _ hT hph hy1 hR_27 hz_6.1) (cm_V 2 hts kc_X11_isIn ki_RX11 kl_RX11_350 kv_X11_isIn kx_X11_isIn kd_X11_isIn ⟨Nat.le_of_ble_eq_true rfl, Nat.le_of_ble_eq_true rfl⟩) (ty_preE (ci := 11) (q0 := 3) hP hK hD hS hA hX rfl rfl) rfl rfl hl.1 rfl (lv_room (Nat.le_of_ble_eq_true rfl)) dX11_stepEndsIn_37 ⟨Nat.le_of_ble_eq_true rfl, Nat.le_of_ble_eq_true rfl⟩) (fun r_45 u H locs hw_46 hP hD hS => ?_)
        obtain ⟨ws_47, rfl⟩ : ∃ z, z = u := ⟨_, rfl⟩
        obtain ⟨hT, hp_48⟩ := hw_46
        have hp_48 : ((r_45 = 0 ∧ ¬ rf_of f_23 p1 0 = (1 : Int32)) ∨ (r_45 = 1 ∧ rf_of f_23 p1 0 = (1 : Int32))) := hp_48
        obtain ⟨hP, hD⟩ := ty_shPD (w2 := ([(rf_RW ct 0 ma 958 fa1_18), (mu, .inl (ct 1, 42, .inr (.inl g_24))), (mv, .inl (ct 1, 42, .inr (.inl sv1_19))), (rf_MO mo mw ma mf m0 m1 mu mv u0 u1 iz (0) mb mn mpt mbg mwr mwk mlf y_22), (rf_RW ct 0 mw 958 f_23)] ++ ws_47)) hP hD rfl
        rcases hp_48 with ⟨rfl, hz_49⟩ | ⟨rfl, hz_50⟩
        · refine lv_if_eq (tgt := 61) hx hb dX11_stepEndsIn_40 (by decide) (fun _ => ?_) (fun hc => absurd (by decide) hc)
          refine lv_aload_n hx hb dX11_stepEndsIn_61 rfl (lv_at hl 0 rfl) ?_
          refine va_get (v := .int y_22) (D := D) (ci := 11) (C := RX11) (T := TX11) (N := 19) hx hb hts in_X11 hown hK hP 3 rfl rfl 18 (by decide) (hts _ kl_RX11_300) (fun _ h9 => h9) rfl dX11_stepEndsIn_62 ?_
          refine lv_if_le (tgt := 72) hx hb dX11_stepEndsIn_65 (by decide) (fun hc_51 => ?_) (fun hc_51 => ?_)
          · refine lv_iconst (v := (-1)) hx hb dX11_stepEndsIn_72 (by decide) ?_
            refine lv_istore_n (lv' := [(3, .int (-1)), (0, .ref mo), (1, .int p1), (2, .int y_21)]) hx hb dX11_stepEndsIn_73 rfl hl (by decide) rfl (fun ls hl => ?_)
            refine lv_aload_n hx hb dX11_stepEndsIn_74 rfl (lv_at hl 1 rfl) ?_
            obtain ⟨hP, hD⟩ := ty_opPD (E1 := []) (E2 := [(rf_MO mo mw ma mf m0 m1 mu mv u0 u1 iz (0) mb mn mpt mbg mwr mwk mlf y_22), (rf_RW ct 0 mw 958 f_23), (rf_RW ct 0 ma 958 fa1_18), (mu, .inl (ct 1, 42, .inr (.inl g_24))), (mv, .inl (ct 1, 42, .inr (.inl sv1_19)))]) (n := 5) [3, 4, 0, 1, 2] hP hD rfl rfl (by decide +kernel) ty_mva
            refine ty_Kv hP hD hS hA (va_runV (As := []) (rest := []) ⟨hx, hb, hml, hown, hts⟩ (m_X11_comesBack l D ct S ws_47 ph xx mo mw ma mf m0 m1 mu mv u0 u1 iz mb (0 : Int32) mn mpt mbg mwr mwk mlf y_22 f_23 G fa1_18 g_24 sv1_19 _ hT hph hy1 hy11 hp_20.1.1) (cm_V 0 hts kc_X11_comesBack ki_RX11 kl_RX11_385 kv_X11_comesBack kx_X11_comesBack kd_X11_comesBack ⟨Nat.le_of_ble_eq_true rfl, Nat.le_of_ble_eq_true rfl⟩) (ty_preE (ci := 11) (q0 := 0) hP hK hD hS hA hX rfl rfl) rfl rfl hl.1 rfl (lv_room (Nat.le_of_ble_eq_true rfl)) dX11_stepEndsIn_75 ⟨Nat.le_of_ble_eq_true rfl, Nat.le_of_ble_eq_true rfl⟩) (fun u H locs hw_53 hP hD hS => ?_)
            obtain ⟨ws_54, f1_55, su1_56⟩ := u
            obtain ⟨hT, hp_57⟩ := hw_53
            have hp_57 : rf_R G (-1) f1_55 ∧ (rf_d (fa1_18 8) fa1_18 f1_55 ∧ q_eq 958 fa1_18 f1_55 ∧ q_cs sv1_19 su1_56) := hp_57
            have hR_58 := hp_57.1
            obtain ⟨hP, hD⟩ := ty_shPD (w2 := ([(rf_MO mo mw ma mf m0 m1 mu mv u0 u1 iz (0) mb mn mpt mbg mwr mwk mlf y_22), (rf_RW ct 0 mw 958 f1_55), (rf_RW ct 0 ma 958 fa1_18), (mu, .inl (ct 1, 42, .inr (.inl su1_56))), (mv, .inl (ct 1, 42, .inr (.inl sv1_19)))] ++ ws_54)) hP hD rfl
            have hD_60 := rf_dg (rf_dr f) hp_20.1.2 hp_57.2.1
            refine lv_iload_n hx hb dX11_stepEndsIn_78 rfl (lv_at hl 0 rfl) ?_
            exact W.iret (v := (-1)) hx hb hr (fun t ht hW => ⟨⟨(-1), (ws_54, y_22, (0 : Int32), f1_55, fa1_18, su1_56, sv1_19), rfl, ⟨hT, ⟨⟨th1_4, trivial, (Or.inl ⟨hz_6, (Or.inr ⟨hz_14, ⟨fa1_18, sv1_19, hp_20.2, ⟨y_21, y_22, f_23, g_24, hex_27, (Or.inr ⟨hc_25, (Or.inl ⟨hz_49, (Or.inl ⟨hc_51, ⟨f1_55, su1_56, hp_57.2.2, ⟨rfl, rfl, rfl, rfl, rfl, rfl, rfl⟩⟩⟩)⟩)⟩)⟩⟩⟩)⟩)⟩, ⟨hD_60, hR_58⟩⟩⟩, by rw [ht]; exact hP, by rw [hAe]; exact hD⟩, hS.F ht⟩) hS.2.2 dX11_stepEndsIn_79
          · refine lv_iload_n hx hb dX11_stepEndsIn_68 rfl (lv_at hl 2 rfl) ?_
            refine lv_goto (tgt := 73) hx hb dX11_stepEndsIn_69 (by decide) ?_
            refine lv_istore_n (lv' := [(3, .int y_21), (0, .ref mo), (1, .int p1), (2, .int y_21)]) hx hb dX11_stepEndsIn_73 rfl hl (by decide) rfl (fun ls hl => ?_)
            refine lv_aload_n hx hb dX11_stepEndsIn_74 rfl (lv_at hl 1 rfl) ?_
            obtain ⟨hP, hD⟩ := ty_opPD (E1 := []) (E2 := [(rf_MO mo mw ma mf m0 m1 mu mv u0 u1 iz (0) mb mn mpt mbg mwr mwk mlf y_22), (rf_RW ct 0 mw 958 f_23), (rf_RW ct 0 ma 958 fa1_18), (mu, .inl (ct 1, 42, .inr (.inl g_24))), (mv, .inl (ct 1, 42, .inr (.inl sv1_19)))]) (n := 5) [3, 4, 0, 1, 2] hP hD rfl rfl (by decide +kernel) ty_mva
            refine ty_Kv hP hD hS hA (va_runV (As := []) (rest := []) ⟨hx, hb, hml, hown, hts⟩ (m_X11_comesBack l D ct S ws_47 ph xx mo mw ma mf m0 m1 mu mv u0 u1 iz mb (0 : Int32) mn mpt mbg mwr mwk mlf y_22 f_23 G fa1_18 g_24 sv1_19 _ hT hph hy1 hy11 hp_20.1.1) (cm_V 0 hts kc_X11_comesBack ki_RX11 kl_RX11_385 kv_X11_comesBack kx_X11_comesBack kd_X11_comesBack ⟨Nat.le_of_ble_eq_true rfl, Nat.le_of_ble_eq_true rfl⟩) (ty_preE (ci := 11) (q0 := 0) hP hK hD hS hA hX rfl rfl) rfl rfl hl.1 rfl (lv_room (Nat.le_of_ble_eq_true rfl)) dX11_stepEndsIn_75 ⟨Nat.le_of_ble_eq_true rfl, Nat.le_of_ble_eq_true rfl⟩) (fun u H locs hw_62 hP hD hS => ?_)
            obtain ⟨ws_63, f1_64, su1_65⟩ := u
            obtain ⟨hT, hp_66⟩ := hw_62
            have hp_66 : rf_R G (-1) f1_64 ∧ (rf_d (fa1_18 8) fa1_18 f1_64 ∧ q_eq 958 fa1_18 f1_64 ∧ q_cs sv1_19 su1_65) := hp_66
            have hR_67 := hp_66.1
            obtain ⟨hP, hD⟩ := ty_shPD (w2 := ([(rf_MO mo mw ma mf m0 m1 mu mv u0 u1 iz (0) mb mn mpt mbg mwr mwk mlf y_22), (rf_RW ct 0 mw 958 f1_64), (rf_RW ct 0 ma 958 fa1_18), (mu, .inl (ct 1, 42, .inr (.inl su1_65))), (mv, .inl (ct 1, 42, .inr (.inl sv1_19)))] ++ ws_63)) hP hD rfl
            have hD_69 := rf_dg (rf_dr f) hp_20.1.2 hp_66.2.1
            refine lv_iload_n hx hb dX11_stepEndsIn_78 rfl (lv_at hl 0 rfl) ?_
            exact W.iret (v := y_21) hx hb hr (fun t ht hW => ⟨⟨y_21, (ws_63, y_22, (0 : Int32), f1_64, fa1_18, su1_65, sv1_19), rfl, ⟨hT, ⟨⟨th1_4, trivial, (Or.inl ⟨hz_6, (Or.inr ⟨hz_14, ⟨fa1_18, sv1_19, hp_20.2, ⟨y_21, y_22, f_23, g_24, hex_27, (Or.inr ⟨hc_25, (Or.inl ⟨hz_49, (Or.inr ⟨hc_51, ⟨f1_64, su1_65, hp_66.2.2, ⟨rfl, rfl, rfl, rfl, rfl, rfl, rfl⟩⟩⟩)⟩)⟩)⟩⟩⟩)⟩)⟩, ⟨hD_69, hR_67⟩⟩⟩, by rw [ht]; exact hP, by rw [hAe]; exact hD⟩, hS.F ht⟩) hS.2.2 dX11_stepEndsIn_79
        · refine lv_if_eq (tgt := 61) hx hb dX11_stepEndsIn_40 (by decide) (fun hc => absurd hc (by decide)) (fun _ => ?_)
          refine lv_iload_n hx hb dX11_stepEndsIn_43 rfl (lv_at hl 2 rfl) ?_
          refine lv_sipush (v := 20000) hx hb dX11_stepEndsIn_44 (by decide) ?_
          refine lv_icmp_ge (tgt := 61) hx hb dX11_stepEndsIn_47 (by decide) (fun hc_70 => ?_) (fun hc_70 => ?_)
          · refine lv_aload_n hx hb dX11_stepEndsIn_61 rfl (lv_at hl 0 rfl) ?_
            refine va_get (v := .int y_22) (D := D) (ci := 11) (C := RX11) (T := TX11) (N := 19) hx hb hts in_X11 hown hK hP 3 rfl rfl 18 (by decide) (hts _ kl_RX11_300) (fun _ h9 => h9) rfl dX11_stepEndsIn_62 ?_
            refine lv_if_le (tgt := 72) hx hb dX11_stepEndsIn_65 (by decide) (fun hc_71 => ?_) (fun hc_71 => ?_)
            · refine lv_iconst (v := (-1)) hx hb dX11_stepEndsIn_72 (by decide) ?_
              refine lv_istore_n (lv' := [(3, .int (-1)), (0, .ref mo), (1, .int p1), (2, .int y_21)]) hx hb dX11_stepEndsIn_73 rfl hl (by decide) rfl (fun ls hl => ?_)
              refine lv_aload_n hx hb dX11_stepEndsIn_74 rfl (lv_at hl 1 rfl) ?_
              obtain ⟨hP, hD⟩ := ty_opPD (E1 := []) (E2 := [(rf_MO mo mw ma mf m0 m1 mu mv u0 u1 iz (0) mb mn mpt mbg mwr mwk mlf y_22), (rf_RW ct 0 mw 958 f_23), (rf_RW ct 0 ma 958 fa1_18), (mu, .inl (ct 1, 42, .inr (.inl g_24))), (mv, .inl (ct 1, 42, .inr (.inl sv1_19)))]) (n := 5) [3, 4, 0, 1, 2] hP hD rfl rfl (by decide +kernel) ty_mva
              refine ty_Kv hP hD hS hA (va_runV (As := []) (rest := []) ⟨hx, hb, hml, hown, hts⟩ (m_X11_comesBack l D ct S ws_47 ph xx mo mw ma mf m0 m1 mu mv u0 u1 iz mb (0 : Int32) mn mpt mbg mwr mwk mlf y_22 f_23 G fa1_18 g_24 sv1_19 _ hT hph hy1 hy11 hp_20.1.1) (cm_V 0 hts kc_X11_comesBack ki_RX11 kl_RX11_385 kv_X11_comesBack kx_X11_comesBack kd_X11_comesBack ⟨Nat.le_of_ble_eq_true rfl, Nat.le_of_ble_eq_true rfl⟩) (ty_preE (ci := 11) (q0 := 0) hP hK hD hS hA hX rfl rfl) rfl rfl hl.1 rfl (lv_room (Nat.le_of_ble_eq_true rfl)) dX11_stepEndsIn_75 ⟨Nat.le_of_ble_eq_true rfl, Nat.le_of_ble_eq_true rfl⟩) (fun u H locs hw_73 hP hD hS => ?_)
              obtain ⟨ws_74, f1_75, su1_76⟩ := u
              obtain ⟨hT, hp_77⟩ := hw_73
              have hp_77 : rf_R G (-1) f1_75 ∧ (rf_d (fa1_18 8) fa1_18 f1_75 ∧ q_eq 958 fa1_18 f1_75 ∧ q_cs sv1_19 su1_76) := hp_77
              have hR_78 := hp_77.1
              obtain ⟨hP, hD⟩ := ty_shPD (w2 := ([(rf_MO mo mw ma mf m0 m1 mu mv u0 u1 iz (0) mb mn mpt mbg mwr mwk mlf y_22), (rf_RW ct 0 mw 958 f1_75), (rf_RW ct 0 ma 958 fa1_18), (mu, .inl (ct 1, 42, .inr (.inl su1_76))), (mv, .inl (ct 1, 42, .inr (.inl sv1_19)))] ++ ws_74)) hP hD rfl
              have hD_80 := rf_dg (rf_dr f) hp_20.1.2 hp_77.2.1
              refine lv_iload_n hx hb dX11_stepEndsIn_78 rfl (lv_at hl 0 rfl) ?_
              exact W.iret (v := (-1)) hx hb hr (fun t ht hW => ⟨⟨(-1), (ws_74, y_22, (0 : Int32), f1_75, fa1_18, su1_76, sv1_19), rfl, ⟨hT, ⟨⟨th1_4, trivial, (Or.inl ⟨hz_6, (Or.inr ⟨hz_14, ⟨fa1_18, sv1_19, hp_20.2, ⟨y_21, y_22, f_23, g_24, hex_27, (Or.inr ⟨hc_25, (Or.inr ⟨hz_50, ⟨hc_70, (Or.inl ⟨hc_71, ⟨f1_75, su1_76, hp_77.2.2, ⟨rfl, rfl, rfl, rfl, rfl, rfl, rfl⟩⟩⟩)⟩⟩)⟩)⟩⟩⟩)⟩)⟩, ⟨hD_80, hR_78⟩⟩⟩, by rw [ht]; exact hP, by rw [hAe]; exact hD⟩, hS.F ht⟩) hS.2.2 dX11_stepEndsIn_79
            · refine lv_iload_n hx hb dX11_stepEndsIn_68 rfl (lv_at hl 2 rfl) ?_
              refine lv_goto (tgt := 73) hx hb dX11_stepEndsIn_69 (by decide) ?_
              refine lv_istore_n (lv' := [(3, .int y_21), (0, .ref mo), (1, .int p1), (2, .int y_21)]) hx hb dX11_stepEndsIn_73 rfl hl (by decide) rfl (fun ls hl => ?_)
              refine lv_aload_n hx hb dX11_stepEndsIn_74 rfl (lv_at hl 1 rfl) ?_
              obtain ⟨hP, hD⟩ := ty_opPD (E1 := []) (E2 := [(rf_MO mo mw ma mf m0 m1 mu mv u0 u1 iz (0) mb mn mpt mbg mwr mwk mlf y_22), (rf_RW ct 0 mw 958 f_23), (rf_RW ct 0 ma 958 fa1_18), (mu, .inl (ct 1, 42, .inr (.inl g_24))), (mv, .inl (ct 1, 42, .inr (.inl sv1_19)))]) (n := 5) [3, 4, 0, 1, 2] hP hD rfl rfl (by decide +kernel) ty_mva
              refine ty_Kv hP hD hS hA (va_runV (As := []) (rest := []) ⟨hx, hb, hml, hown, hts⟩ (m_X11_comesBack l D ct S ws_47 ph xx mo mw ma mf m0 m1 mu mv u0 u1 iz mb (0 : Int32) mn mpt mbg mwr mwk mlf y_22 f_23 G fa1_18 g_24 sv1_19 _ hT hph hy1 hy11 hp_20.1.1) (cm_V 0 hts kc_X11_comesBack ki_RX11 kl_RX11_385 kv_X11_comesBack kx_X11_comesBack kd_X11_comesBack ⟨Nat.le_of_ble_eq_true rfl, Nat.le_of_ble_eq_true rfl⟩) (ty_preE (ci := 11) (q0 := 0) hP hK hD hS hA hX rfl rfl) rfl rfl hl.1 rfl (lv_room (Nat.le_of_ble_eq_true rfl)) dX11_stepEndsIn_75 ⟨Nat.le_of_ble_eq_true rfl, Nat.le_of_ble_eq_true rfl⟩) (fun u H locs hw_82 hP hD hS => ?_)
              obtain ⟨ws_83, f1_84, su1_85⟩ := u
              obtain ⟨hT, hp_86⟩ := hw_82
              have hp_86 : rf_R G (-1) f1_84 ∧ (rf_d (fa1_18 8) fa1_18 f1_84 ∧ q_eq 958 fa1_18 f1_84 ∧ q_cs sv1_19 su1_85) := hp_86
              have hR_87 := hp_86.1
              obtain ⟨hP, hD⟩ := ty_shPD (w2 := ([(rf_MO mo mw ma mf m0 m1 mu mv u0 u1 iz (0) mb mn mpt mbg mwr mwk mlf y_22), (rf_RW ct 0 mw 958 f1_84), (rf_RW ct 0 ma 958 fa1_18), (mu, .inl (ct 1, 42, .inr (.inl su1_85))), (mv, .inl (ct 1, 42, .inr (.inl sv1_19)))] ++ ws_83)) hP hD rfl
              have hD_89 := rf_dg (rf_dr f) hp_20.1.2 hp_86.2.1
              refine lv_iload_n hx hb dX11_stepEndsIn_78 rfl (lv_at hl 0 rfl) ?_
              exact W.iret (v := y_21) hx hb hr (fun t ht hW => ⟨⟨y_21, (ws_83, y_22, (0 : Int32), f1_84, fa1_18, su1_85, sv1_19), rfl, ⟨hT, ⟨⟨th1_4, trivial, (Or.inl ⟨hz_6, (Or.inr ⟨hz_14, ⟨fa1_18, sv1_19, hp_20.2, ⟨y_21, y_22, f_23, g_24, hex_27, (Or.inr ⟨hc_25, (Or.inr ⟨hz_50, ⟨hc_70, (Or.inr ⟨hc_71, ⟨f1_84, su1_85, hp_86.2.2, ⟨rfl, rfl, rfl, rfl, rfl, rfl, rfl⟩⟩⟩)⟩⟩)⟩)⟩⟩⟩)⟩)⟩, ⟨hD_89, hR_87⟩⟩⟩, by rw [ht]; exact hP, by rw [hAe]; exact hD⟩, hS.F ht⟩) hS.2.2 dX11_stepEndsIn_79
          · refine lv_aload_n hx hb dX11_stepEndsIn_50 rfl (lv_at hl 0 rfl) ?_
            refine lv_iload_n hx hb dX11_stepEndsIn_51 rfl (lv_at hl 1 rfl) ?_
            obtain ⟨hP, hD⟩ := ty_opPD (E1 := [(rf_RW ct 0 ma 958 fa1_18), (mv, .inl (ct 1, 42, .inr (.inl sv1_19)))]) (E2 := [(rf_MO mo mw ma mf m0 m1 mu mv u0 u1 iz (0) mb mn mpt mbg mwr mwk mlf y_22), (rf_RW ct 0 mw 958 f_23), (mu, .inl (ct 1, 42, .inr (.inl g_24)))]) (n := 5) [0, 2, 3, 4, 1] hP hD rfl rfl (by decide +kernel) ty_mva
            refine ty_Kv hP hD hS hA (va_runV (As := [.int p1]) (rest := []) ⟨hx, hb, hml, hown, hts⟩ (m_X11_alone l D ct S ws_47 ph xx mo mw ma mf m0 m1 mu mv u0 u1 iz mb (0 : Int32) mn mpt mbg mwr mwk mlf y_22 f_23 G g_24 p1 _ hT hph hy1 hy11 hR_27 hz_6.1) (cm_V 1 hts kc_X11_alone ki_RX11 kl_RX11_382 kv_X11_alone kx_X11_alone kd_X11_alone ⟨Nat.le_of_ble_eq_true rfl, Nat.le_of_ble_eq_true rfl⟩) (ty_preE (ci := 11) (q0 := 2) hP hK hD hS hA hX rfl rfl) rfl rfl hl.1 rfl (lv_room (Nat.le_of_ble_eq_true rfl)) dX11_stepEndsIn_52 ⟨Nat.le_of_ble_eq_true rfl, Nat.le_of_ble_eq_true rfl⟩) (fun u H locs hw_91 hP hD hS => ?_)
            obtain ⟨ws_92, men1_93, f1_94, su1_95⟩ := u
            obtain ⟨hT, hp_96⟩ := hw_91
            have hp_96 : (q_X11_alone y_22 f_23 G g_24 p1 men1_93 f1_94 su1_95) ∧ rf_d ((f_23 8) + 1) f_23 f1_94 ∧ rf_R G (-1) f1_94 := hp_96
            obtain ⟨hq_97, hp_98⟩ := hp_96
            obtain ⟨hd_99, hq_100⟩ := hp_98
            have hR_101 := hq_100
            obtain ⟨hP, hD⟩ := ty_shPD (w2 := ([(rf_RW ct 0 ma 958 fa1_18), (mv, .inl (ct 1, 42, .inr (.inl sv1_19))), (rf_MO mo mw ma mf m0 m1 mu mv u0 u1 iz (0) mb mn mpt mbg mwr mwk mlf men1_93), (rf_RW ct 0 mw 958 f1_94), (mu, .inl (ct 1, 42, .inr (.inl su1_95)))] ++ ws_92)) hP hD rfl
            refine lv_iinc (v := (y_21 + Int32.ofInt 1)) (lv' := [(2, .int (y_21 + Int32.ofInt 1)), (0, .ref mo), (1, .int p1)]) hx hb dX11_stepEndsIn_55 hl (k := 2) rfl rfl (by decide) rfl (fun ls hl => ?_)
            refine lv_goto (tgt := 27) hx hb dX11_stepEndsIn_58 (by decide) ?_
            obtain ⟨hP, hD⟩ := ty_ordPD (E2 := [(rf_MO mo mw ma mf m0 m1 mu mv u0 u1 iz (0) mb mn mpt mbg mwr mwk mlf men1_93), (rf_RW ct 0 mw 958 f1_94), (rf_RW ct 0 ma 958 fa1_18), (mu, .inl (ct 1, 42, .inr (.inl su1_95))), (mv, .inl (ct 1, 42, .inr (.inl sv1_19)))]) (n := 5) [2, 3, 0, 4, 1] hP hD rfl rfl (by decide +kernel)
            exact ih_27 _ _ _ _ (ty_inc (cm_lt hc_70)) ⟨ws_92, (y_21 + Int32.ofInt 1), men1_93, f1_94, su1_95, rfl, hT, hP, hD, hS, (lv_sub hl [1, 2, 0] rfl), hR_101, ⟨q_yb (by decide) hex_27.1 hc_70, q_chs hex_27.1.1 hc_70 hex_27.2 ⟨hc_25, hz_50⟩ hq_97⟩⟩
  · have he_103 := hz_7.2
    have hP : va_P D vwCl ([(rf_RW ct 0 ma 958 fa), (mu, .inl (ct 1, 42, .inr (.inl su))), (mv, .inl (ct 1, 42, .inr (.inl sv))), (rf_MO mo mw ma mf m0 m1 mu mv u0 u1 iz (1) mb mn mpt mbg mwr mwk mlf men), (rf_RW ct 0 mw 958 f)] ++ ws_3) H := by rw [he_103] at hP; exact hP
    have hD : va_D A ([(rf_RW ct 0 ma 958 fa), (mu, .inl (ct 1, 42, .inr (.inl su))), (mv, .inl (ct 1, 42, .inr (.inl sv))), (rf_MO mo mw ma mf m0 m1 mu mv u0 u1 iz (1) mb mn mpt mbg mwr mwk mlf men), (rf_RW ct 0 mw 958 f)] ++ ws_3) := by rw [he_103] at hD; exact hD
    refine lv_if_eq (tgt := 10) hx hb dX11_stepEndsIn_5 (by decide) (fun hc => absurd hc (by decide)) (fun _ => ?_)
    refine lv_iconst (v := 0) hx hb dX11_stepEndsIn_8 (by decide) ?_
    obtain ⟨hP, hD⟩ := ty_ordPD (E2 := [(rf_MO mo mw ma mf m0 m1 mu mv u0 u1 iz (1) mb mn mpt mbg mwr mwk mlf men), (rf_RW ct 0 mw 958 f), (rf_RW ct 0 ma 958 fa), (mu, .inl (ct 1, 42, .inr (.inl su))), (mv, .inl (ct 1, 42, .inr (.inl sv)))]) (n := 5) [3, 4, 0, 1, 2] hP hD rfl rfl (by decide +kernel)
    exact W.iret (v := 0) hx hb hr (fun t ht hW => ⟨⟨0, (ws_3, men, (1 : Int32), f, fa, su, sv), rfl, ⟨hT, ⟨⟨th1_4, trivial, (Or.inr ⟨hz_7, ⟨rfl, rfl, rfl, rfl, rfl, rfl, rfl⟩⟩)⟩, ⟨(rf_dr f), hR⟩⟩⟩, by rw [ht]; exact hP, by rw [hAe]; exact hD⟩, hS.F ht⟩) hS.2.2 dX11_stepEndsIn_9
def q_X11_valueAfter (men : Int32) (f : Nat → Int32) (G : Nat → Int32) (fa : Nat → Int32) (su : Nat → Int64) (sv : Nat → Int64) (p1 : Int32) (p2 : Int32) (p3 : Int32) (r : Int32) (men1 : Int32) (th1 : Int32) (f1 : Nat → Int32) (fa1 : Nat → Int32) (su1 : Nat → Int64) (sv1 : Nat → Int64) : Prop := (∃ (th1_4 : Int32), True ∧ ((((0 ≤ p1.toInt ∧ p1.toInt < (G 9).toInt) ∧ th1_4 = 0) ∧ (((cm_rng p2.toInt64 0 10) = (0 : Int32) ∧ (∃ (th1_16 : Int32), True ∧ ((¬ (1 : Int32) = 0 ∧ th1_16 = (2 : Int32)) ∧ (r = 0 ∧ men1 = men ∧ th1 = 2 ∧ f1 = f ∧ fa1 = fa ∧ su1 = su ∧ sv1 = sv)))) ∨ (¬ (cm_rng p2.toInt64 0 10) = (0 : Int32) ∧ ((¬ (cm_rng p3.toInt64 0 10000) = (0 : Int32) ∧ (∃ (th1_28 : Int32), True ∧ (((0 : Int32) = 0 ∧ th1_28 = 0) ∧ (∃ (fa1_36 : Nat → Int32) (sv1_37 : Nat → Int64), (q_eq 958 f fa1_36 ∧ q_cs su sv1_37) ∧ (∃ (y_39 : Int32) (y_40 : Int32) (f_41 : Nat → Int32) (g_42 : Nat → Int64), ((0 ≤ y_39.toInt ∧ y_39.toInt ≤ p3.toInt) ∧ q_ch G p1 (fun _ _ => True) y_39.toInt.toNat 0 f su y_40 f_41 g_42) ∧ (p3 ≤ y_39 ∧ (∃ (f1_50 : Nat → Int32) (su1_51 : Nat → Int64), (q_eq 958 fa1_36 f1_50 ∧ q_cs sv1_37 su1_51) ∧ (r = (rf_of f_41 p1 p2.toInt.toNat) ∧ men1 = y_40 ∧ th1 = 0 ∧ f1 = f1_50 ∧ fa1 = fa1_36 ∧ su1 = su1_51 ∧ sv1 = sv1_37)))))))) ∨ ((cm_rng p3.toInt64 0 10000) = (0 : Int32) ∧ (∃ (th1_72 : Int32), True ∧ ((¬ (1 : Int32) = 0 ∧ th1_72 = (2 : Int32)) ∧ (r = 0 ∧ men1 = men ∧ th1 = 2 ∧ f1 = f ∧ fa1 = fa ∧ su1 = su ∧ sv1 = sv)))))))) ∨ ((¬ (0 ≤ p1.toInt ∧ p1.toInt < (G 9).toInt) ∧ th1_4 = 1) ∧ (r = 0 ∧ men1 = men ∧ th1 = 1 ∧ f1 = f ∧ fa1 = fa ∧ su1 = su ∧ sv1 = sv))))
set_option maxRecDepth 100000 in
set_option maxHeartbeats 4000000 in
theorem m_X11_valueAfter (l : Launch) (D : va_G) (ct : Nat → ClassId) (S : ty_S) (ws : va_W) (ph : va_W → Prop) (xx : Nat → Nat → Nat → Prop) (mo : Nat) (mw : Nat) (ma : Nat) (mf : Nat) (m0 : Nat) (m1 : Nat) (mu : Nat) (mv : Nat) (u0 : Nat) (u1 : Nat) (iz : Nat) (mb : Nat) (th : Int32) (mn : Int32) (mpt : Int32) (mbg : Int32) (mwr : Int32) (mwk : Int32) (mlf : Int32) (men : Int32) (f : Nat → Int32) (G : Nat → Int32) (fa : Nat → Int32) (su : Nat → Int64) (sv : Nat → Int64) (p1 : Int32) (p2 : Int32) (p3 : Int32) (sz : Nat) (hT : ty_V ct S ph ws) (hph : ty_C ph xx) (hy1 : ty_y1 xx) (hy11 : ty_y0 xx 11) (hR : rf_R G (-1) f) : Met l yX11_valueAfter (ws_ yX11_valueAfter cX11_valueAfter 5 (some .int)) ({ frames := 8, cells := 0, slots := 0, locals := 186 } : Room) (va_Pc [.ref mo, .int p1, .int p2, .int p3] (cmP D ct sz ([(rf_MO mo mw ma mf m0 m1 mu mv u0 u1 iz th mb mn mpt mbg mwr mwk mlf men), (rf_RW ct 0 mw 958 f), (rf_RW ct 0 ma 958 fa), (mu, .inl (ct 1, 42, .inr (.inl su))), (mv, .inl (ct 1, 42, .inr (.inl sv)))] ++ ws))) (va_Qi (fun (r : Int32) (u : va_W × Int32 × Int32 × (Nat → Int32) × (Nat → Int32) × (Nat → Int64) × (Nat → Int64)) => match u with | (u9, men1, th1, f1, fa1, su1, sv1) => ty_V ct S ph u9 ∧ (q_X11_valueAfter men f G fa su sv p1 p2 p3 r men1 th1 f1 fa1 su1 sv1) ∧ rf_d (f 8) f f1 ∧ rf_R G (-1) f1) (cmB D ([(rf_MO mo mw ma mf m0 m1 mu mv u0 u1 iz th mb mn mpt mbg mwr mwk mlf men), (rf_RW ct 0 mw 958 f), (rf_RW ct 0 ma 958 fa), (mu, .inl (ct 1, 42, .inr (.inl su))), (mv, .inl (ct 1, 42, .inr (.inl sv)))] ++ ws) sz (fun (u : va_W × Int32 × Int32 × (Nat → Int32) × (Nat → Int32) × (Nat → Int64) × (Nat → Int64)) => match u with | (u9, men1, th1, f1, fa1, su1, sv1) => ([(rf_MO mo mw ma mf m0 m1 mu mv u0 u1 iz th1 mb mn mpt mbg mwr mwk mlf men1), (rf_RW ct 0 mw 958 f1), (rf_RW ct 0 ma 958 fa1), (mu, .inl (ct 1, 42, .inr (.inl su1))), (mv, .inl (ct 1, 42, .inr (.inl sv1)))] ++ u9))) (va_A ([(rf_MO mo mw ma mf m0 m1 mu mv u0 u1 iz th mb mn mpt mbg mwr mwk mlf men), (rf_RW ct 0 mw 958 f), (rf_RW ct 0 ma 958 fa), (mu, .inl (ct 1, 42, .inr (.inl su))), (mv, .inl (ct 1, 42, .inr (.inl sv)))] ++ ws) sz)) 0 0 (va_A ([(rf_MO mo mw ma mf m0 m1 mu mv u0 u1 iz th mb mn mpt mbg mwr mwk mlf men), (rf_RW ct 0 mw 958 f), (rf_RW ct 0 ma 958 fa), (mu, .inl (ct 1, 42, .inr (.inl su))), (mv, .inl (ct 1, 42, .inr (.inl sv)))] ++ ws) sz) := by
  refine Met.ofW (cc := cX11_valueAfter) (maxL := 5) (ret := (some .int)) (by decide) rfl ?_
  intro p e s m args below meth c s₁ B hml hv
  obtain ⟨rfl, hsz, hP, hK, hD0, hX⟩ := hv
  have hx := B.exec
  have hb := B.bytes
  have hr := B.returns
  have hts := ws_all (atoms_spec (ws := ws_ yX11_valueAfter cX11_valueAfter 5 (some .int)) B.pre)
  have hown : s.vm.findClass RX11 = some m.cls := findClass_of_methodNamed B.named
  have hlocks := B.notSynchronized
  subst hsz
  have hD := hD0.self (sz := s.heap.size)
  generalize hAe : va_A ([(rf_MO mo mw ma mf m0 m1 mu mv u0 u1 iz th mb mn mpt mbg mwr mwk mlf men), (rf_RW ct 0 mw 958 f), (rf_RW ct 0 ma 958 fa), (mu, .inl (ct 1, 42, .inr (.inl su))), (mv, .inl (ct 1, 42, .inr (.inl sv)))] ++ ws) s.heap.size = A at hD hX ⊢
  have hA : ∀ q : Nat, s.heap.size ≤ q → A q := fun q h => by rw [← hAe]; exact Or.inr h
  have hS : va_S A s.heap s.heap [] := va_S.rf
  have hl := lv_entry ([.ref mo, .int p1, .int p2, .int p3]) (n := 5) (Nat.le_of_ble_eq_true rfl)
  rw [lg_entry_eq]
  generalize (lg_sl ([.ref mo, .int p1, .int p2, .int p3]) ++ List.replicate (5 - (lg_sl ([.ref mo, .int p1, .int p2, .int p3])).length) Slot.unset).toArray = ls at hl ⊢
  have hl : lv_has ls 5 [(0, .ref mo), (1, .int p1), (2, .int p2), (3, .int p3)] := hl
  refine lv_aload_n hx hb dX11_valueAfter_0 rfl (lv_at hl 0 rfl) ?_
  refine lv_iload_n hx hb dX11_valueAfter_1 rfl (lv_at hl 1 rfl) ?_
  obtain ⟨hP, hD⟩ := ty_opPD (E1 := [(rf_RW ct 0 ma 958 fa), (mu, .inl (ct 1, 42, .inr (.inl su))), (mv, .inl (ct 1, 42, .inr (.inl sv)))]) (E2 := [(rf_MO mo mw ma mf m0 m1 mu mv u0 u1 iz th mb mn mpt mbg mwr mwk mlf men), (rf_RW ct 0 mw 958 f)]) (n := 5) [2, 3, 4, 0, 1] hP hD rfl rfl (by decide +kernel) ty_mva
  refine ty_Ki hP hD hS hA (va_runV (As := [.int p1]) (rest := []) ⟨hx, hb, hml, hown, hts⟩ (m_X11_noChannel l D ct S ws ph xx mo mw ma mf m0 m1 mu mv u0 u1 iz mb th mn mpt mbg mwr mwk mlf men f G (-1) p1 _ hT hph hy1 hR) (cm_V 1 hts kc_X11_noChannel ki_RX11 kl_RX11_344 kv_X11_noChannel kx_X11_noChannel kd_X11_noChannel ⟨Nat.le_of_ble_eq_true rfl, Nat.le_of_ble_eq_true rfl⟩) (ty_preE (ci := 11) (q0 := 3) hP hK hD hS hA hX rfl rfl) rfl rfl hl.1 rfl (lv_room (Nat.le_of_ble_eq_true rfl)) dX11_valueAfter_2 ⟨Nat.le_of_ble_eq_true rfl, Nat.le_of_ble_eq_true rfl⟩) (fun r_1 u H locs hw_2 hP hD hS => ?_)
  obtain ⟨ws_3, th1_4⟩ := u
  obtain ⟨hT, hp_5⟩ := hw_2
  have hp_5 : ((r_1 = 0 ∧ (0 ≤ p1.toInt ∧ p1.toInt < (G 9).toInt) ∧ th1_4 = 0) ∨ (r_1 = 1 ∧ ¬ (0 ≤ p1.toInt ∧ p1.toInt < (G 9).toInt) ∧ th1_4 = 1)) := hp_5
  obtain ⟨hP, hD⟩ := ty_shPD (w2 := ([(rf_RW ct 0 ma 958 fa), (mu, .inl (ct 1, 42, .inr (.inl su))), (mv, .inl (ct 1, 42, .inr (.inl sv))), (rf_MO mo mw ma mf m0 m1 mu mv u0 u1 iz th1_4 mb mn mpt mbg mwr mwk mlf men), (rf_RW ct 0 mw 958 f)] ++ ws_3)) hP hD rfl
  rcases hp_5 with ⟨rfl, hz_6⟩ | ⟨rfl, hz_7⟩
  · have he_8 := hz_6.2
    have hP : va_P D vwCl ([(rf_RW ct 0 ma 958 fa), (mu, .inl (ct 1, 42, .inr (.inl su))), (mv, .inl (ct 1, 42, .inr (.inl sv))), (rf_MO mo mw ma mf m0 m1 mu mv u0 u1 iz (0) mb mn mpt mbg mwr mwk mlf men), (rf_RW ct 0 mw 958 f)] ++ ws_3) H := by rw [he_8] at hP; exact hP
    have hD : va_D A ([(rf_RW ct 0 ma 958 fa), (mu, .inl (ct 1, 42, .inr (.inl su))), (mv, .inl (ct 1, 42, .inr (.inl sv))), (rf_MO mo mw ma mf m0 m1 mu mv u0 u1 iz (0) mb mn mpt mbg mwr mwk mlf men), (rf_RW ct 0 mw 958 f)] ++ ws_3) := by rw [he_8] at hD; exact hD
    refine lv_if_ne (tgt := 45) hx hb dX11_valueAfter_5 (by decide) (fun hc => absurd (by decide) hc) (fun _ => ?_)
    refine lv_aload_n hx hb dX11_valueAfter_8 rfl (lv_at hl 0 rfl) ?_
    refine lv_iload_n hx hb dX11_valueAfter_9 rfl (lv_at hl 2 rfl) ?_
    refine lv_i2l hx hb dX11_valueAfter_10 rfl ?_
    refine lv_lconst (v := 0) hx hb dX11_valueAfter_11 (by decide) ?_
    refine lv_ldc2 hx hb hown (hts _ kl_RX11_117) dX11_valueAfter_12 ?_
    obtain ⟨hP, hD⟩ := ty_ipPD (E1 := [(rf_RW ct 0 ma 958 fa), (mu, .inl (ct 1, 42, .inr (.inl su))), (mv, .inl (ct 1, 42, .inr (.inl sv))), (rf_MO mo mw ma mf m0 m1 mu mv u0 u1 iz (0) mb mn mpt mbg mwr mwk mlf men), (rf_RW ct 0 mw 958 f)]) (E2 := []) hP hD rfl ty_mva
    refine ty_Ki hP hD hS hA (va_runS (As := [.long p2.toInt64, .long 0, .long 10]) (rest := [.ref mo]) ⟨hx, hb, hml, hown, hts⟩ (m_X11_in l D ct S ws_3 ph xx p2.toInt64 (0 : Int64) (10 : Int64) _ hT hph hy1) (cm_S 3 hts kc_X11_in ki_RX11 kl_RX11_70 ks_X11_in kd_X11_in ⟨Nat.le_of_ble_eq_true rfl, Nat.le_of_ble_eq_true rfl⟩) (ty_preS hP hK hD hS hA hX) rfl rfl hl.1 rfl (lv_room (Nat.le_of_ble_eq_true rfl)) dX11_valueAfter_15 ⟨Nat.le_of_ble_eq_true rfl, Nat.le_of_ble_eq_true rfl⟩) (fun r_9 u H locs hw_10 hP hD hS => ?_)
    obtain ⟨ws_11, rfl⟩ : ∃ z, z = u := ⟨_, rfl⟩
    obtain ⟨hT, rfl⟩ := hw_10
    obtain ⟨hP, hD⟩ := ty_shPD (w2 := ([(rf_RW ct 0 ma 958 fa), (mu, .inl (ct 1, 42, .inr (.inl su))), (mv, .inl (ct 1, 42, .inr (.inl sv))), (rf_MO mo mw ma mf m0 m1 mu mv u0 u1 iz (0) mb mn mpt mbg mwr mwk mlf men), (rf_RW ct 0 mw 958 f)] ++ ws_11)) hP hD rfl
    refine lv_if_eq (tgt := 33) hx hb dX11_valueAfter_18 (by decide) (fun hc_12 => ?_) (fun hc_12 => ?_)
    · refine lv_iconst (v := 1) hx hb dX11_valueAfter_33 (by decide) ?_
      refine lv_goto (tgt := 38) hx hb dX11_valueAfter_34 (by decide) ?_
      refine lv_iconst (v := 2) hx hb dX11_valueAfter_38 (by decide) ?_
      obtain ⟨hP, hD⟩ := ty_opPD (E1 := [(rf_RW ct 0 ma 958 fa), (mu, .inl (ct 1, 42, .inr (.inl su))), (mv, .inl (ct 1, 42, .inr (.inl sv))), (rf_RW ct 0 mw 958 f)]) (E2 := [(rf_MO mo mw ma mf m0 m1 mu mv u0 u1 iz (0) mb mn mpt mbg mwr mwk mlf men)]) (n := 5) [0, 1, 2, 4, 3] hP hD rfl rfl (by decide +kernel) ty_mva
      refine ty_Ki hP hD hS hA (va_runV (As := [.int 1, .int 2]) (rest := []) ⟨hx, hb, hml, hown, hts⟩ (m_throwsIf_0 l D ct S ws_11 ph xx mo mw ma mf m0 m1 mu mv u0 u1 iz mb mn mpt mbg mwr mwk mlf men (1 : Int32) (2 : Int32) _ hT hph hy1 (by decide)) (cm_V 2 hts kc_X11_throwsIf ki_RX11 kl_RX11_328 kv_X11_throwsIf kx_X11_throwsIf kd_X11_throwsIf ⟨Nat.le_of_ble_eq_true rfl, Nat.le_of_ble_eq_true rfl⟩) (ty_preE (ci := 11) (q0 := 4) hP hK hD hS hA hX rfl rfl) rfl rfl hl.1 rfl (lv_room (Nat.le_of_ble_eq_true rfl)) dX11_valueAfter_39 ⟨Nat.le_of_ble_eq_true rfl, Nat.le_of_ble_eq_true rfl⟩) (fun r_13 u H locs hw_14 hP hD hS => ?_)
      obtain ⟨ws_15, th1_16⟩ := u
      obtain ⟨hT, hp_17⟩ := hw_14
      have hp_17 : ((r_13 = 0 ∧ (1 : Int32) = 0 ∧ th1_16 = 0) ∨ (r_13 = 1 ∧ ¬ (1 : Int32) = 0 ∧ th1_16 = (2 : Int32))) := hp_17
      obtain ⟨hP, hD⟩ := ty_shPD (w2 := ([(rf_RW ct 0 ma 958 fa), (mu, .inl (ct 1, 42, .inr (.inl su))), (mv, .inl (ct 1, 42, .inr (.inl sv))), (rf_RW ct 0 mw 958 f), (rf_MO mo mw ma mf m0 m1 mu mv u0 u1 iz th1_16 mb mn mpt mbg mwr mwk mlf men)] ++ ws_15)) hP hD rfl
      rcases hp_17 with ⟨rfl, hz_18⟩ | ⟨rfl, hz_19⟩
      · exact absurd hz_18.1 (by decide)
      · have he_20 := hz_19.2
        have hP : va_P D vwCl ([(rf_RW ct 0 ma 958 fa), (mu, .inl (ct 1, 42, .inr (.inl su))), (mv, .inl (ct 1, 42, .inr (.inl sv))), (rf_RW ct 0 mw 958 f), (rf_MO mo mw ma mf m0 m1 mu mv u0 u1 iz (2) mb mn mpt mbg mwr mwk mlf men)] ++ ws_15) H := by rw [he_20] at hP; exact hP
        have hD : va_D A ([(rf_RW ct 0 ma 958 fa), (mu, .inl (ct 1, 42, .inr (.inl su))), (mv, .inl (ct 1, 42, .inr (.inl sv))), (rf_RW ct 0 mw 958 f), (rf_MO mo mw ma mf m0 m1 mu mv u0 u1 iz (2) mb mn mpt mbg mwr mwk mlf men)] ++ ws_15) := by rw [he_20] at hD; exact hD
        refine lv_if_eq (tgt := 47) hx hb dX11_valueAfter_42 (by decide) (fun hc => absurd hc (by decide)) (fun _ => ?_)
        refine lv_iconst (v := 0) hx hb dX11_valueAfter_45 (by decide) ?_
        obtain ⟨hP, hD⟩ := ty_ordPD (E2 := [(rf_MO mo mw ma mf m0 m1 mu mv u0 u1 iz (2) mb mn mpt mbg mwr mwk mlf men), (rf_RW ct 0 mw 958 f), (rf_RW ct 0 ma 958 fa), (mu, .inl (ct 1, 42, .inr (.inl su))), (mv, .inl (ct 1, 42, .inr (.inl sv)))]) (n := 5) [4, 3, 0, 1, 2] hP hD rfl rfl (by decide +kernel)
        exact W.iret (v := 0) hx hb hr (fun t ht hW => ⟨⟨0, (ws_15, men, (2 : Int32), f, fa, su, sv), rfl, ⟨hT, ⟨⟨th1_4, trivial, (Or.inl ⟨hz_6, (Or.inl ⟨hc_12, ⟨th1_16, trivial, ⟨hz_19, ⟨rfl, rfl, rfl, rfl, rfl, rfl, rfl⟩⟩⟩⟩)⟩)⟩, ⟨(rf_dr f), hR⟩⟩⟩, by rw [ht]; exact hP, by rw [hAe]; exact hD⟩, hS.F ht⟩) hS.2.2 dX11_valueAfter_46
    · refine lv_iload_n hx hb dX11_valueAfter_21 rfl (lv_at hl 3 rfl) ?_
      refine lv_i2l hx hb dX11_valueAfter_22 rfl ?_
      refine lv_lconst (v := 0) hx hb dX11_valueAfter_23 (by decide) ?_
      refine lv_ldc2 hx hb hown (hts _ kl_RX11_394) dX11_valueAfter_24 ?_
      obtain ⟨hP, hD⟩ := ty_ipPD (E1 := [(rf_RW ct 0 ma 958 fa), (mu, .inl (ct 1, 42, .inr (.inl su))), (mv, .inl (ct 1, 42, .inr (.inl sv))), (rf_MO mo mw ma mf m0 m1 mu mv u0 u1 iz (0) mb mn mpt mbg mwr mwk mlf men), (rf_RW ct 0 mw 958 f)]) (E2 := []) hP hD rfl ty_mva
      refine ty_Ki hP hD hS hA (va_runS (As := [.long p3.toInt64, .long 0, .long 10000]) (rest := [.ref mo]) ⟨hx, hb, hml, hown, hts⟩ (m_X11_in l D ct S ws_11 ph xx p3.toInt64 (0 : Int64) (10000 : Int64) _ hT hph hy1) (cm_S 3 hts kc_X11_in ki_RX11 kl_RX11_70 ks_X11_in kd_X11_in ⟨Nat.le_of_ble_eq_true rfl, Nat.le_of_ble_eq_true rfl⟩) (ty_preS hP hK hD hS hA hX) rfl rfl hl.1 rfl (lv_room (Nat.le_of_ble_eq_true rfl)) dX11_valueAfter_27 ⟨Nat.le_of_ble_eq_true rfl, Nat.le_of_ble_eq_true rfl⟩) (fun r_21 u H locs hw_22 hP hD hS => ?_)
      obtain ⟨ws_23, rfl⟩ : ∃ z, z = u := ⟨_, rfl⟩
      obtain ⟨hT, rfl⟩ := hw_22
      obtain ⟨hP, hD⟩ := ty_shPD (w2 := ([(rf_RW ct 0 ma 958 fa), (mu, .inl (ct 1, 42, .inr (.inl su))), (mv, .inl (ct 1, 42, .inr (.inl sv))), (rf_MO mo mw ma mf m0 m1 mu mv u0 u1 iz (0) mb mn mpt mbg mwr mwk mlf men), (rf_RW ct 0 mw 958 f)] ++ ws_23)) hP hD rfl
      refine lv_if_ne (tgt := 37) hx hb dX11_valueAfter_30 (by decide) (fun hc_24 => ?_) (fun hc_24 => ?_)
      · refine lv_iconst (v := 0) hx hb dX11_valueAfter_37 (by decide) ?_
        refine lv_iconst (v := 2) hx hb dX11_valueAfter_38 (by decide) ?_
        obtain ⟨hP, hD⟩ := ty_opPD (E1 := [(rf_RW ct 0 ma 958 fa), (mu, .inl (ct 1, 42, .inr (.inl su))), (mv, .inl (ct 1, 42, .inr (.inl sv))), (rf_RW ct 0 mw 958 f)]) (E2 := [(rf_MO mo mw ma mf m0 m1 mu mv u0 u1 iz (0) mb mn mpt mbg mwr mwk mlf men)]) (n := 5) [0, 1, 2, 4, 3] hP hD rfl rfl (by decide +kernel) ty_mva
        refine ty_Ki hP hD hS hA (va_runV (As := [.int 0, .int 2]) (rest := []) ⟨hx, hb, hml, hown, hts⟩ (m_throwsIf_0 l D ct S ws_23 ph xx mo mw ma mf m0 m1 mu mv u0 u1 iz mb mn mpt mbg mwr mwk mlf men (0 : Int32) (2 : Int32) _ hT hph hy1 (by decide)) (cm_V 2 hts kc_X11_throwsIf ki_RX11 kl_RX11_328 kv_X11_throwsIf kx_X11_throwsIf kd_X11_throwsIf ⟨Nat.le_of_ble_eq_true rfl, Nat.le_of_ble_eq_true rfl⟩) (ty_preE (ci := 11) (q0 := 4) hP hK hD hS hA hX rfl rfl) rfl rfl hl.1 rfl (lv_room (Nat.le_of_ble_eq_true rfl)) dX11_valueAfter_39 ⟨Nat.le_of_ble_eq_true rfl, Nat.le_of_ble_eq_true rfl⟩) (fun r_25 u H locs hw_26 hP hD hS => ?_)
        obtain ⟨ws_27, th1_28⟩ := u
        obtain ⟨hT, hp_29⟩ := hw_26
        have hp_29 : ((r_25 = 0 ∧ (0 : Int32) = 0 ∧ th1_28 = 0) ∨ (r_25 = 1 ∧ ¬ (0 : Int32) = 0 ∧ th1_28 = (2 : Int32))) := hp_29
        obtain ⟨hP, hD⟩ := ty_shPD (w2 := ([(rf_RW ct 0 ma 958 fa), (mu, .inl (ct 1, 42, .inr (.inl su))), (mv, .inl (ct 1, 42, .inr (.inl sv))), (rf_RW ct 0 mw 958 f), (rf_MO mo mw ma mf m0 m1 mu mv u0 u1 iz th1_28 mb mn mpt mbg mwr mwk mlf men)] ++ ws_27)) hP hD rfl
        rcases hp_29 with ⟨rfl, hz_30⟩ | ⟨rfl, hz_31⟩
        · have he_32 := hz_30.2
          have hP : va_P D vwCl ([(rf_RW ct 0 ma 958 fa), (mu, .inl (ct 1, 42, .inr (.inl su))), (mv, .inl (ct 1, 42, .inr (.inl sv))), (rf_RW ct 0 mw 958 f), (rf_MO mo mw ma mf m0 m1 mu mv u0 u1 iz (0) mb mn mpt mbg mwr mwk mlf men)] ++ ws_27) H := by rw [he_32] at hP; exact hP
          have hD : va_D A ([(rf_RW ct 0 ma 958 fa), (mu, .inl (ct 1, 42, .inr (.inl su))), (mv, .inl (ct 1, 42, .inr (.inl sv))), (rf_RW ct 0 mw 958 f), (rf_MO mo mw ma mf m0 m1 mu mv u0 u1 iz (0) mb mn mpt mbg mwr mwk mlf men)] ++ ws_27) := by rw [he_32] at hD; exact hD
          refine lv_if_eq (tgt := 47) hx hb dX11_valueAfter_42 (by decide) (fun _ => ?_) (fun hc => absurd (by decide) hc)
          refine lv_aload_n hx hb dX11_valueAfter_47 rfl (lv_at hl 0 rfl) ?_
          obtain ⟨hP, hD⟩ := ty_opPD (E1 := []) (E2 := [(rf_MO mo mw ma mf m0 m1 mu mv u0 u1 iz (0) mb mn mpt mbg mwr mwk mlf men), (rf_RW ct 0 mw 958 f), (rf_RW ct 0 ma 958 fa), (mu, .inl (ct 1, 42, .inr (.inl su))), (mv, .inl (ct 1, 42, .inr (.inl sv)))]) (n := 5) [4, 3, 0, 1, 2] hP hD rfl rfl (by decide +kernel) ty_mva
          refine ty_Kv hP hD hS hA (va_runV (As := []) (rest := []) ⟨hx, hb, hml, hown, hts⟩ (m_X11_goesAside l D ct S ws_27 ph xx mo mw ma mf m0 m1 mu mv u0 u1 iz mb (0 : Int32) mn mpt mbg mwr mwk mlf men f G fa su sv _ hT hph hy1 hy11 hR) (cm_V 0 hts kc_X11_goesAside ki_RX11 kl_RX11_379 kv_X11_goesAside kx_X11_goesAside kd_X11_goesAside ⟨Nat.le_of_ble_eq_true rfl, Nat.le_of_ble_eq_true rfl⟩) (ty_preE (ci := 11) (q0 := 0) hP hK hD hS hA hX rfl rfl) rfl rfl hl.1 rfl (lv_room (Nat.le_of_ble_eq_true rfl)) dX11_valueAfter_48 ⟨Nat.le_of_ble_eq_true rfl, Nat.le_of_ble_eq_true rfl⟩) (fun u H locs hw_34 hP hD hS => ?_)
          obtain ⟨ws_35, fa1_36, sv1_37⟩ := u
          obtain ⟨hT, hp_38⟩ := hw_34
          have hp_38 : (rf_R G (-1) fa1_36 ∧ rf_d (f 8) f fa1_36) ∧ q_eq 958 f fa1_36 ∧ q_cs su sv1_37 := hp_38
          obtain ⟨hP, hD⟩ := ty_shPD (w2 := ([(rf_MO mo mw ma mf m0 m1 mu mv u0 u1 iz (0) mb mn mpt mbg mwr mwk mlf (0)), (rf_RW ct 0 mw 958 f), (rf_RW ct 0 ma 958 fa1_36), (mu, .inl (ct 1, 42, .inr (.inl su))), (mv, .inl (ct 1, 42, .inr (.inl sv1_37)))] ++ ws_35)) hP hD rfl
          refine lv_iconst (v := 0) hx hb dX11_valueAfter_51 (by decide) ?_
          refine lv_istore (lv' := [(4, .int 0), (0, .ref mo), (1, .int p1), (2, .int p2), (3, .int p3)]) hx hb dX11_valueAfter_52 hl (by decide) rfl (fun ls hl => ?_)
          refine ty_loop (I := fun μ H locs ls => ∃ (ws : va_W) (y_39 : Int32) (y_40 : Int32) (f_41 : Nat → Int32) (g_42 : Nat → Int64), μ = (2147483648 - y_39.toInt).toNat ∧ ty_V ct S ph ws ∧ va_P D vwCl ([(rf_MO mo mw ma mf m0 m1 mu mv u0 u1 iz (0) mb mn mpt mbg mwr mwk mlf y_40), (rf_RW ct 0 mw 958 f_41), (rf_RW ct 0 ma 958 fa1_36), (mu, .inl (ct 1, 42, .inr (.inl g_42))), (mv, .inl (ct 1, 42, .inr (.inl sv1_37)))] ++ ws) H ∧ va_D A ([(rf_MO mo mw ma mf m0 m1 mu mv u0 u1 iz (0) mb mn mpt mbg mwr mwk mlf y_40), (rf_RW ct 0 mw 958 f_41), (rf_RW ct 0 ma 958 fa1_36), (mu, .inl (ct 1, 42, .inr (.inl g_42))), (mv, .inl (ct 1, 42, .inr (.inl sv1_37)))] ++ ws) ∧ va_S A s.heap H locs ∧ lv_has ls 5 [(0, .ref mo), (1, .int p1), (2, .int p2), (3, .int p3), (4, .int y_39)] ∧ rf_R G (-1) f_41 ∧ (0 ≤ y_39.toInt ∧ y_39.toInt ≤ p3.toInt) ∧ q_ch G p1 (fun _ _ => True) y_39.toInt.toNat 0 f su y_40 f_41 g_42) ⟨_, ws_35, (0 : Int32), (0 : Int32), f, su, rfl, hT, hP, hD, hS, (lv_sub hl [1, 2, 3, 4, 0] rfl), hR, ⟨⟨by decide, (by have := (rf_rngc (L := 0) (U := 10000) (by decide) (by decide) hc_24); have z : (0 : Int32).toInt = 0 := (by decide); omega)⟩, q_ch0⟩⟩ (fun μ H locs ls hI ih_54 => ?_)
          obtain ⟨ws, y_39, y_40, f_41, g_42, rfl, hT, hP, hD, hS, hl, hR_54, hex_54⟩ := hI
          refine lv_iload hx hb dX11_valueAfter_54 (lv_at hl 4 rfl) ?_
          refine lv_iload_n hx hb dX11_valueAfter_56 rfl (lv_at hl 3 rfl) ?_
          refine lv_icmp_ge (tgt := 71) hx hb dX11_valueAfter_57 (by decide) (fun hc_43 => ?_) (fun hc_43 => ?_)
          · refine lv_aload_n hx hb dX11_valueAfter_71 rfl (lv_at hl 0 rfl) ?_
            refine lv_iload_n hx hb dX11_valueAfter_72 rfl (lv_at hl 1 rfl) ?_
            refine lv_iload_n hx hb dX11_valueAfter_73 rfl (lv_at hl 2 rfl) ?_
            obtain ⟨hP, hD⟩ := ty_opPD (E1 := [(rf_RW ct 0 ma 958 fa1_36), (mu, .inl (ct 1, 42, .inr (.inl g_42))), (mv, .inl (ct 1, 42, .inr (.inl sv1_37)))]) (E2 := [(rf_MO mo mw ma mf m0 m1 mu mv u0 u1 iz (0) mb mn mpt mbg mwr mwk mlf y_40), (rf_RW ct 0 mw 958 f_41)]) (n := 5) [2, 3, 4, 0, 1] hP hD rfl rfl (by decide +kernel) ty_mva
            refine ty_Ki hP hD hS hA (va_runV (As := [.int p1, .int p2]) (rest := []) ⟨hx, hb, hml, hown, hts⟩ (m_of_v l D ct S ws ph xx mo mw ma mf m0 m1 mu mv u0 u1 iz mb (0 : Int32) mn mpt mbg mwr mwk mlf y_40 f_41 G (-1) p1 p2 _ hT hph hy1 hR_54 hz_6.1 (by have := (rf_rngc (L := 0) (U := 10) (by decide) (by decide) hc_12); omega)) (cm_V 2 hts kc_X11_of ki_RX11 kl_RX11_209 kv_X11_of kx_X11_of kd_X11_of ⟨Nat.le_of_ble_eq_true rfl, Nat.le_of_ble_eq_true rfl⟩) (ty_preE (ci := 11) (q0 := 3) hP hK hD hS hA hX rfl rfl) rfl rfl hl.1 rfl (lv_room (Nat.le_of_ble_eq_true rfl)) dX11_valueAfter_74 ⟨Nat.le_of_ble_eq_true rfl, Nat.le_of_ble_eq_true rfl⟩) (fun r_44 u H locs hw_45 hP hD hS => ?_)
            obtain ⟨ws_46, rfl⟩ : ∃ z, z = u := ⟨_, rfl⟩
            obtain ⟨hT, rfl⟩ := hw_45
            obtain ⟨hP, hD⟩ := ty_shPD (w2 := ([(rf_RW ct 0 ma 958 fa1_36), (mu, .inl (ct 1, 42, .inr (.inl g_42))), (mv, .inl (ct 1, 42, .inr (.inl sv1_37))), (rf_MO mo mw ma mf m0 m1 mu mv u0 u1 iz (0) mb mn mpt mbg mwr mwk mlf y_40), (rf_RW ct 0 mw 958 f_41)] ++ ws_46)) hP hD rfl
            refine lv_istore (lv' := [(4, .int (rf_of f_41 p1 p2.toInt.toNat)), (0, .ref mo), (1, .int p1), (2, .int p2), (3, .int p3)]) hx hb dX11_valueAfter_77 hl (by decide) rfl (fun ls hl => ?_)
            refine lv_aload_n hx hb dX11_valueAfter_79 rfl (lv_at hl 1 rfl) ?_
            obtain ⟨hP, hD⟩ := ty_opPD (E1 := []) (E2 := [(rf_MO mo mw ma mf m0 m1 mu mv u0 u1 iz (0) mb mn mpt mbg mwr mwk mlf y_40), (rf_RW ct 0 mw 958 f_41), (rf_RW ct 0 ma 958 fa1_36), (mu, .inl (ct 1, 42, .inr (.inl g_42))), (mv, .inl (ct 1, 42, .inr (.inl sv1_37)))]) (n := 5) [3, 4, 0, 1, 2] hP hD rfl rfl (by decide +kernel) ty_mva
            refine ty_Kv hP hD hS hA (va_runV (As := []) (rest := []) ⟨hx, hb, hml, hown, hts⟩ (m_X11_comesBack l D ct S ws_46 ph xx mo mw ma mf m0 m1 mu mv u0 u1 iz mb (0 : Int32) mn mpt mbg mwr mwk mlf y_40 f_41 G fa1_36 g_42 sv1_37 _ hT hph hy1 hy11 hp_38.1.1) (cm_V 0 hts kc_X11_comesBack ki_RX11 kl_RX11_385 kv_X11_comesBack kx_X11_comesBack kd_X11_comesBack ⟨Nat.le_of_ble_eq_true rfl, Nat.le_of_ble_eq_true rfl⟩) (ty_preE (ci := 11) (q0 := 0) hP hK hD hS hA hX rfl rfl) rfl rfl hl.1 rfl (lv_room (Nat.le_of_ble_eq_true rfl)) dX11_valueAfter_80 ⟨Nat.le_of_ble_eq_true rfl, Nat.le_of_ble_eq_true rfl⟩) (fun u H locs hw_48 hP hD hS => ?_)
            obtain ⟨ws_49, f1_50, su1_51⟩ := u
            obtain ⟨hT, hp_52⟩ := hw_48
            have hp_52 : rf_R G (-1) f1_50 ∧ (rf_d (fa1_36 8) fa1_36 f1_50 ∧ q_eq 958 fa1_36 f1_50 ∧ q_cs sv1_37 su1_51) := hp_52
            have hR_53 := hp_52.1
            obtain ⟨hP, hD⟩ := ty_shPD (w2 := ([(rf_MO mo mw ma mf m0 m1 mu mv u0 u1 iz (0) mb mn mpt mbg mwr mwk mlf y_40), (rf_RW ct 0 mw 958 f1_50), (rf_RW ct 0 ma 958 fa1_36), (mu, .inl (ct 1, 42, .inr (.inl su1_51))), (mv, .inl (ct 1, 42, .inr (.inl sv1_37)))] ++ ws_49)) hP hD rfl
            have hD_55 := rf_dg (rf_dr f) hp_38.1.2 hp_52.2.1
            refine lv_iload hx hb dX11_valueAfter_83 (lv_at hl 0 rfl) ?_
            exact W.iret (v := (rf_of f_41 p1 p2.toInt.toNat)) hx hb hr (fun t ht hW => ⟨⟨(rf_of f_41 p1 p2.toInt.toNat), (ws_49, y_40, (0 : Int32), f1_50, fa1_36, su1_51, sv1_37), rfl, ⟨hT, ⟨⟨th1_4, trivial, (Or.inl ⟨hz_6, (Or.inr ⟨hc_12, (Or.inl ⟨hc_24, ⟨th1_28, trivial, ⟨hz_30, ⟨fa1_36, sv1_37, hp_38.2, ⟨y_39, y_40, f_41, g_42, hex_54, ⟨hc_43, ⟨f1_50, su1_51, hp_52.2.2, ⟨rfl, rfl, rfl, rfl, rfl, rfl, rfl⟩⟩⟩⟩⟩⟩⟩⟩)⟩)⟩)⟩, ⟨hD_55, hR_53⟩⟩⟩, by rw [ht]; exact hP, by rw [hAe]; exact hD⟩, hS.F ht⟩) hS.2.2 dX11_valueAfter_85
          · refine lv_aload_n hx hb dX11_valueAfter_60 rfl (lv_at hl 0 rfl) ?_
            refine lv_iload_n hx hb dX11_valueAfter_61 rfl (lv_at hl 1 rfl) ?_
            obtain ⟨hP, hD⟩ := ty_opPD (E1 := [(rf_RW ct 0 ma 958 fa1_36), (mv, .inl (ct 1, 42, .inr (.inl sv1_37)))]) (E2 := [(rf_MO mo mw ma mf m0 m1 mu mv u0 u1 iz (0) mb mn mpt mbg mwr mwk mlf y_40), (rf_RW ct 0 mw 958 f_41), (mu, .inl (ct 1, 42, .inr (.inl g_42)))]) (n := 5) [2, 4, 0, 1, 3] hP hD rfl rfl (by decide +kernel) ty_mva
            refine ty_Kv hP hD hS hA (va_runV (As := [.int p1]) (rest := []) ⟨hx, hb, hml, hown, hts⟩ (m_X11_alone l D ct S ws ph xx mo mw ma mf m0 m1 mu mv u0 u1 iz mb (0 : Int32) mn mpt mbg mwr mwk mlf y_40 f_41 G g_42 p1 _ hT hph hy1 hy11 hR_54 hz_6.1) (cm_V 1 hts kc_X11_alone ki_RX11 kl_RX11_382 kv_X11_alone kx_X11_alone kd_X11_alone ⟨Nat.le_of_ble_eq_true rfl, Nat.le_of_ble_eq_true rfl⟩) (ty_preE (ci := 11) (q0 := 2) hP hK hD hS hA hX rfl rfl) rfl rfl hl.1 rfl (lv_room (Nat.le_of_ble_eq_true rfl)) dX11_valueAfter_62 ⟨Nat.le_of_ble_eq_true rfl, Nat.le_of_ble_eq_true rfl⟩) (fun u H locs hw_57 hP hD hS => ?_)
            obtain ⟨ws_58, men1_59, f1_60, su1_61⟩ := u
            obtain ⟨hT, hp_62⟩ := hw_57
            have hp_62 : (q_X11_alone y_40 f_41 G g_42 p1 men1_59 f1_60 su1_61) ∧ rf_d ((f_41 8) + 1) f_41 f1_60 ∧ rf_R G (-1) f1_60 := hp_62
            obtain ⟨hq_63, hp_64⟩ := hp_62
            obtain ⟨hd_65, hq_66⟩ := hp_64
            have hR_67 := hq_66
            obtain ⟨hP, hD⟩ := ty_shPD (w2 := ([(rf_RW ct 0 ma 958 fa1_36), (mv, .inl (ct 1, 42, .inr (.inl sv1_37))), (rf_MO mo mw ma mf m0 m1 mu mv u0 u1 iz (0) mb mn mpt mbg mwr mwk mlf men1_59), (rf_RW ct 0 mw 958 f1_60), (mu, .inl (ct 1, 42, .inr (.inl su1_61)))] ++ ws_58)) hP hD rfl
            refine lv_iinc (v := (y_39 + Int32.ofInt 1)) (lv' := [(4, .int (y_39 + Int32.ofInt 1)), (0, .ref mo), (1, .int p1), (2, .int p2), (3, .int p3)]) hx hb dX11_valueAfter_65 hl (k := 4) rfl rfl (by decide) rfl (fun ls hl => ?_)
            refine lv_goto (tgt := 54) hx hb dX11_valueAfter_68 (by decide) ?_
            obtain ⟨hP, hD⟩ := ty_ordPD (E2 := [(rf_MO mo mw ma mf m0 m1 mu mv u0 u1 iz (0) mb mn mpt mbg mwr mwk mlf men1_59), (rf_RW ct 0 mw 958 f1_60), (rf_RW ct 0 ma 958 fa1_36), (mu, .inl (ct 1, 42, .inr (.inl su1_61))), (mv, .inl (ct 1, 42, .inr (.inl sv1_37)))]) (n := 5) [2, 3, 0, 4, 1] hP hD rfl rfl (by decide +kernel)
            exact ih_54 _ _ _ _ (ty_inc (cm_lt hc_43)) ⟨ws_58, (y_39 + Int32.ofInt 1), men1_59, f1_60, su1_61, rfl, hT, hP, hD, hS, (lv_sub hl [1, 2, 3, 4, 0] rfl), hR_67, ⟨q_yb rfl hex_54.1 hc_43, q_chs hex_54.1.1 hc_43 hex_54.2 trivial hq_63⟩⟩
        · exact absurd rfl hz_31.1
      · refine lv_iconst (v := 1) hx hb dX11_valueAfter_33 (by decide) ?_
        refine lv_goto (tgt := 38) hx hb dX11_valueAfter_34 (by decide) ?_
        refine lv_iconst (v := 2) hx hb dX11_valueAfter_38 (by decide) ?_
        obtain ⟨hP, hD⟩ := ty_opPD (E1 := [(rf_RW ct 0 ma 958 fa), (mu, .inl (ct 1, 42, .inr (.inl su))), (mv, .inl (ct 1, 42, .inr (.inl sv))), (rf_RW ct 0 mw 958 f)]) (E2 := [(rf_MO mo mw ma mf m0 m1 mu mv u0 u1 iz (0) mb mn mpt mbg mwr mwk mlf men)]) (n := 5) [0, 1, 2, 4, 3] hP hD rfl rfl (by decide +kernel) ty_mva
        refine ty_Ki hP hD hS hA (va_runV (As := [.int 1, .int 2]) (rest := []) ⟨hx, hb, hml, hown, hts⟩ (m_throwsIf_0 l D ct S ws_23 ph xx mo mw ma mf m0 m1 mu mv u0 u1 iz mb mn mpt mbg mwr mwk mlf men (1 : Int32) (2 : Int32) _ hT hph hy1 (by decide)) (cm_V 2 hts kc_X11_throwsIf ki_RX11 kl_RX11_328 kv_X11_throwsIf kx_X11_throwsIf kd_X11_throwsIf ⟨Nat.le_of_ble_eq_true rfl, Nat.le_of_ble_eq_true rfl⟩) (ty_preE (ci := 11) (q0 := 4) hP hK hD hS hA hX rfl rfl) rfl rfl hl.1 rfl (lv_room (Nat.le_of_ble_eq_true rfl)) dX11_valueAfter_39 ⟨Nat.le_of_ble_eq_true rfl, Nat.le_of_ble_eq_true rfl⟩) (fun r_69 u H locs hw_70 hP hD hS => ?_)
        obtain ⟨ws_71, th1_72⟩ := u
        obtain ⟨hT, hp_73⟩ := hw_70
        have hp_73 : ((r_69 = 0 ∧ (1 : Int32) = 0 ∧ th1_72 = 0) ∨ (r_69 = 1 ∧ ¬ (1 : Int32) = 0 ∧ th1_72 = (2 : Int32))) := hp_73
        obtain ⟨hP, hD⟩ := ty_shPD (w2 := ([(rf_RW ct 0 ma 958 fa), (mu, .inl (ct 1, 42, .inr (.inl su))), (mv, .inl (ct 1, 42, .inr (.inl sv))), (rf_RW ct 0 mw 958 f), (rf_MO mo mw ma mf m0 m1 mu mv u0 u1 iz th1_72 mb mn mpt mbg mwr mwk mlf men)] ++ ws_71)) hP hD rfl
        rcases hp_73 with ⟨rfl, hz_74⟩ | ⟨rfl, hz_75⟩
        · exact absurd hz_74.1 (by decide)
        · have he_76 := hz_75.2
          have hP : va_P D vwCl ([(rf_RW ct 0 ma 958 fa), (mu, .inl (ct 1, 42, .inr (.inl su))), (mv, .inl (ct 1, 42, .inr (.inl sv))), (rf_RW ct 0 mw 958 f), (rf_MO mo mw ma mf m0 m1 mu mv u0 u1 iz (2) mb mn mpt mbg mwr mwk mlf men)] ++ ws_71) H := by rw [he_76] at hP; exact hP
          have hD : va_D A ([(rf_RW ct 0 ma 958 fa), (mu, .inl (ct 1, 42, .inr (.inl su))), (mv, .inl (ct 1, 42, .inr (.inl sv))), (rf_RW ct 0 mw 958 f), (rf_MO mo mw ma mf m0 m1 mu mv u0 u1 iz (2) mb mn mpt mbg mwr mwk mlf men)] ++ ws_71) := by rw [he_76] at hD; exact hD
          refine lv_if_eq (tgt := 47) hx hb dX11_valueAfter_42 (by decide) (fun hc => absurd hc (by decide)) (fun _ => ?_)
          refine lv_iconst (v := 0) hx hb dX11_valueAfter_45 (by decide) ?_
          obtain ⟨hP, hD⟩ := ty_ordPD (E2 := [(rf_MO mo mw ma mf m0 m1 mu mv u0 u1 iz (2) mb mn mpt mbg mwr mwk mlf men), (rf_RW ct 0 mw 958 f), (rf_RW ct 0 ma 958 fa), (mu, .inl (ct 1, 42, .inr (.inl su))), (mv, .inl (ct 1, 42, .inr (.inl sv)))]) (n := 5) [4, 3, 0, 1, 2] hP hD rfl rfl (by decide +kernel)
          exact W.iret (v := 0) hx hb hr (fun t ht hW => ⟨⟨0, (ws_71, men, (2 : Int32), f, fa, su, sv), rfl, ⟨hT, ⟨⟨th1_4, trivial, (Or.inl ⟨hz_6, (Or.inr ⟨hc_12, (Or.inr ⟨hc_24, ⟨th1_72, trivial, ⟨hz_75, ⟨rfl, rfl, rfl, rfl, rfl, rfl, rfl⟩⟩⟩⟩)⟩)⟩)⟩, ⟨(rf_dr f), hR⟩⟩⟩, by rw [ht]; exact hP, by rw [hAe]; exact hD⟩, hS.F ht⟩) hS.2.2 dX11_valueAfter_46
  · have he_77 := hz_7.2
    have hP : va_P D vwCl ([(rf_RW ct 0 ma 958 fa), (mu, .inl (ct 1, 42, .inr (.inl su))), (mv, .inl (ct 1, 42, .inr (.inl sv))), (rf_MO mo mw ma mf m0 m1 mu mv u0 u1 iz (1) mb mn mpt mbg mwr mwk mlf men), (rf_RW ct 0 mw 958 f)] ++ ws_3) H := by rw [he_77] at hP; exact hP
    have hD : va_D A ([(rf_RW ct 0 ma 958 fa), (mu, .inl (ct 1, 42, .inr (.inl su))), (mv, .inl (ct 1, 42, .inr (.inl sv))), (rf_MO mo mw ma mf m0 m1 mu mv u0 u1 iz (1) mb mn mpt mbg mwr mwk mlf men), (rf_RW ct 0 mw 958 f)] ++ ws_3) := by rw [he_77] at hD; exact hD
    refine lv_if_ne (tgt := 45) hx hb dX11_valueAfter_5 (by decide) (fun _ => ?_) (fun hc => absurd hc (by decide))
    refine lv_iconst (v := 0) hx hb dX11_valueAfter_45 (by decide) ?_
    obtain ⟨hP, hD⟩ := ty_ordPD (E2 := [(rf_MO mo mw ma mf m0 m1 mu mv u0 u1 iz (1) mb mn mpt mbg mwr mwk mlf men), (rf_RW ct 0 mw 958 f), (rf_RW ct 0 ma 958 fa), (mu, .inl (ct 1, 42, .inr (.inl su))), (mv, .inl (ct 1, 42, .inr (.inl sv)))]) (n := 5) [3, 4, 0, 1, 2] hP hD rfl rfl (by decide +kernel)
    exact W.iret (v := 0) hx hb hr (fun t ht hW => ⟨⟨0, (ws_3, men, (1 : Int32), f, fa, su, sv), rfl, ⟨hT, ⟨⟨th1_4, trivial, (Or.inr ⟨hz_7, ⟨rfl, rfl, rfl, rfl, rfl, rfl, rfl⟩⟩)⟩, ⟨(rf_dr f), hR⟩⟩⟩, by rw [ht]; exact hP, by rw [hAe]; exact hD⟩, hS.F ht⟩) hS.2.2 dX11_valueAfter_46
def q_X11_peakTemperature (men : Int32) (f : Nat → Int32) (G : Nat → Int32) (fa : Nat → Int32) (su : Nat → Int64) (sv : Nat → Int64) (p1 : Int32) (p2 : Int32) (r : Int32) (men1 : Int32) (th1 : Int32) (f1 : Nat → Int32) (fa1 : Nat → Int32) (su1 : Nat → Int64) (sv1 : Nat → Int64) : Prop := (∃ (th1_4 : Int32), True ∧ ((((0 ≤ p1.toInt ∧ p1.toInt < (G 9).toInt) ∧ th1_4 = 0) ∧ ((¬ (cm_rng p2.toInt64 0 10000) = (0 : Int32) ∧ (∃ (th1_16 : Int32), True ∧ (((0 : Int32) = 0 ∧ th1_16 = 0) ∧ (∃ (fa1_24 : Nat → Int32) (sv1_25 : Nat → Int64), (q_eq 958 f fa1_24 ∧ q_cs su sv1_25) ∧ (∃ (y_30 : Int32) (y_31 : Int32) (y_32 : Int32) (f_33 : Nat → Int32) (g_34 : Nat → Int64), ((0 ≤ y_31.toInt ∧ y_31.toInt ≤ p2.toInt) ∧ q_pk G p1 y_31.toInt.toNat (rf_of f p1 9) 0 f su y_30 y_32 f_33 g_34) ∧ (p2 ≤ y_31 ∧ (∃ (f1_39 : Nat → Int32) (su1_40 : Nat → Int64), (q_eq 958 fa1_24 f1_39 ∧ q_cs sv1_25 su1_40) ∧ (r = y_30 ∧ men1 = y_32 ∧ th1 = 0 ∧ f1 = f1_39 ∧ fa1 = fa1_24 ∧ su1 = su1_40 ∧ sv1 = sv1_25)))))))) ∨ ((cm_rng p2.toInt64 0 10000) = (0 : Int32) ∧ (∃ (th1_64 : Int32), True ∧ ((¬ (1 : Int32) = 0 ∧ th1_64 = (2 : Int32)) ∧ (r = 0 ∧ men1 = men ∧ th1 = 2 ∧ f1 = f ∧ fa1 = fa ∧ su1 = su ∧ sv1 = sv)))))) ∨ ((¬ (0 ≤ p1.toInt ∧ p1.toInt < (G 9).toInt) ∧ th1_4 = 1) ∧ (r = 0 ∧ men1 = men ∧ th1 = 1 ∧ f1 = f ∧ fa1 = fa ∧ su1 = su ∧ sv1 = sv))))
set_option maxRecDepth 100000 in
set_option maxHeartbeats 4000000 in
theorem m_X11_peakTemperature (l : Launch) (D : va_G) (ct : Nat → ClassId) (S : ty_S) (ws : va_W) (ph : va_W → Prop) (xx : Nat → Nat → Nat → Prop) (mo : Nat) (mw : Nat) (ma : Nat) (mf : Nat) (m0 : Nat) (m1 : Nat) (mu : Nat) (mv : Nat) (u0 : Nat) (u1 : Nat) (iz : Nat) (mb : Nat) (th : Int32) (mn : Int32) (mpt : Int32) (mbg : Int32) (mwr : Int32) (mwk : Int32) (mlf : Int32) (men : Int32) (f : Nat → Int32) (G : Nat → Int32) (fa : Nat → Int32) (su : Nat → Int64) (sv : Nat → Int64) (p1 : Int32) (p2 : Int32) (sz : Nat) (hT : ty_V ct S ph ws) (hph : ty_C ph xx) (hy1 : ty_y1 xx) (hy11 : ty_y0 xx 11) (hR : rf_R G (-1) f) : Met l yX11_peakTemperature (ws_ yX11_peakTemperature cX11_peakTemperature 5 (some .int)) ({ frames := 8, cells := 0, slots := 0, locals := 186 } : Room) (va_Pc [.ref mo, .int p1, .int p2] (cmP D ct sz ([(rf_MO mo mw ma mf m0 m1 mu mv u0 u1 iz th mb mn mpt mbg mwr mwk mlf men), (rf_RW ct 0 mw 958 f), (rf_RW ct 0 ma 958 fa), (mu, .inl (ct 1, 42, .inr (.inl su))), (mv, .inl (ct 1, 42, .inr (.inl sv)))] ++ ws))) (va_Qi (fun (r : Int32) (u : va_W × Int32 × Int32 × (Nat → Int32) × (Nat → Int32) × (Nat → Int64) × (Nat → Int64)) => match u with | (u9, men1, th1, f1, fa1, su1, sv1) => ty_V ct S ph u9 ∧ (q_X11_peakTemperature men f G fa su sv p1 p2 r men1 th1 f1 fa1 su1 sv1) ∧ rf_d (f 8) f f1 ∧ rf_R G (-1) f1) (cmB D ([(rf_MO mo mw ma mf m0 m1 mu mv u0 u1 iz th mb mn mpt mbg mwr mwk mlf men), (rf_RW ct 0 mw 958 f), (rf_RW ct 0 ma 958 fa), (mu, .inl (ct 1, 42, .inr (.inl su))), (mv, .inl (ct 1, 42, .inr (.inl sv)))] ++ ws) sz (fun (u : va_W × Int32 × Int32 × (Nat → Int32) × (Nat → Int32) × (Nat → Int64) × (Nat → Int64)) => match u with | (u9, men1, th1, f1, fa1, su1, sv1) => ([(rf_MO mo mw ma mf m0 m1 mu mv u0 u1 iz th1 mb mn mpt mbg mwr mwk mlf men1), (rf_RW ct 0 mw 958 f1), (rf_RW ct 0 ma 958 fa1), (mu, .inl (ct 1, 42, .inr (.inl su1))), (mv, .inl (ct 1, 42, .inr (.inl sv1)))] ++ u9))) (va_A ([(rf_MO mo mw ma mf m0 m1 mu mv u0 u1 iz th mb mn mpt mbg mwr mwk mlf men), (rf_RW ct 0 mw 958 f), (rf_RW ct 0 ma 958 fa), (mu, .inl (ct 1, 42, .inr (.inl su))), (mv, .inl (ct 1, 42, .inr (.inl sv)))] ++ ws) sz)) 0 0 (va_A ([(rf_MO mo mw ma mf m0 m1 mu mv u0 u1 iz th mb mn mpt mbg mwr mwk mlf men), (rf_RW ct 0 mw 958 f), (rf_RW ct 0 ma 958 fa), (mu, .inl (ct 1, 42, .inr (.inl su))), (mv, .inl (ct 1, 42, .inr (.inl sv)))] ++ ws) sz) := by
  refine Met.ofW (cc := cX11_peakTemperature) (maxL := 5) (ret := (some .int)) (by decide) rfl ?_
  intro p e s m args below meth c s₁ B hml hv
  obtain ⟨rfl, hsz, hP, hK, hD0, hX⟩ := hv
  have hx := B.exec
  have hb := B.bytes
  have hr := B.returns
  have hts := ws_all (atoms_spec (ws := ws_ yX11_peakTemperature cX11_peakTemperature 5 (some .int)) B.pre)
  have hown : s.vm.findClass RX11 = some m.cls := findClass_of_methodNamed B.named
  have hlocks := B.notSynchronized
  subst hsz
  have hD := hD0.self (sz := s.heap.size)
  generalize hAe : va_A ([(rf_MO mo mw ma mf m0 m1 mu mv u0 u1 iz th mb mn mpt mbg mwr mwk mlf men), (rf_RW ct 0 mw 958 f), (rf_RW ct 0 ma 958 fa), (mu, .inl (ct 1, 42, .inr (.inl su))), (mv, .inl (ct 1, 42, .inr (.inl sv)))] ++ ws) s.heap.size = A at hD hX ⊢
  have hA : ∀ q : Nat, s.heap.size ≤ q → A q := fun q h => by rw [← hAe]; exact Or.inr h
  have hS : va_S A s.heap s.heap [] := va_S.rf
  have hl := lv_entry ([.ref mo, .int p1, .int p2]) (n := 5) (Nat.le_of_ble_eq_true rfl)
  rw [lg_entry_eq]
  generalize (lg_sl ([.ref mo, .int p1, .int p2]) ++ List.replicate (5 - (lg_sl ([.ref mo, .int p1, .int p2])).length) Slot.unset).toArray = ls at hl ⊢
  have hl : lv_has ls 5 [(0, .ref mo), (1, .int p1), (2, .int p2)] := hl
  refine lv_aload_n hx hb dX11_peakTemperature_0 rfl (lv_at hl 0 rfl) ?_
  refine lv_iload_n hx hb dX11_peakTemperature_1 rfl (lv_at hl 1 rfl) ?_
  obtain ⟨hP, hD⟩ := ty_opPD (E1 := [(rf_RW ct 0 ma 958 fa), (mu, .inl (ct 1, 42, .inr (.inl su))), (mv, .inl (ct 1, 42, .inr (.inl sv)))]) (E2 := [(rf_MO mo mw ma mf m0 m1 mu mv u0 u1 iz th mb mn mpt mbg mwr mwk mlf men), (rf_RW ct 0 mw 958 f)]) (n := 5) [2, 3, 4, 0, 1] hP hD rfl rfl (by decide +kernel) ty_mva
  refine ty_Ki hP hD hS hA (va_runV (As := [.int p1]) (rest := []) ⟨hx, hb, hml, hown, hts⟩ (m_X11_noChannel l D ct S ws ph xx mo mw ma mf m0 m1 mu mv u0 u1 iz mb th mn mpt mbg mwr mwk mlf men f G (-1) p1 _ hT hph hy1 hR) (cm_V 1 hts kc_X11_noChannel ki_RX11 kl_RX11_344 kv_X11_noChannel kx_X11_noChannel kd_X11_noChannel ⟨Nat.le_of_ble_eq_true rfl, Nat.le_of_ble_eq_true rfl⟩) (ty_preE (ci := 11) (q0 := 3) hP hK hD hS hA hX rfl rfl) rfl rfl hl.1 rfl (lv_room (Nat.le_of_ble_eq_true rfl)) dX11_peakTemperature_2 ⟨Nat.le_of_ble_eq_true rfl, Nat.le_of_ble_eq_true rfl⟩) (fun r_1 u H locs hw_2 hP hD hS => ?_)
  obtain ⟨ws_3, th1_4⟩ := u
  obtain ⟨hT, hp_5⟩ := hw_2
  have hp_5 : ((r_1 = 0 ∧ (0 ≤ p1.toInt ∧ p1.toInt < (G 9).toInt) ∧ th1_4 = 0) ∨ (r_1 = 1 ∧ ¬ (0 ≤ p1.toInt ∧ p1.toInt < (G 9).toInt) ∧ th1_4 = 1)) := hp_5
  obtain ⟨hP, hD⟩ := ty_shPD (w2 := ([(rf_RW ct 0 ma 958 fa), (mu, .inl (ct 1, 42, .inr (.inl su))), (mv, .inl (ct 1, 42, .inr (.inl sv))), (rf_MO mo mw ma mf m0 m1 mu mv u0 u1 iz th1_4 mb mn mpt mbg mwr mwk mlf men), (rf_RW ct 0 mw 958 f)] ++ ws_3)) hP hD rfl
  rcases hp_5 with ⟨rfl, hz_6⟩ | ⟨rfl, hz_7⟩
  · have he_8 := hz_6.2
    have hP : va_P D vwCl ([(rf_RW ct 0 ma 958 fa), (mu, .inl (ct 1, 42, .inr (.inl su))), (mv, .inl (ct 1, 42, .inr (.inl sv))), (rf_MO mo mw ma mf m0 m1 mu mv u0 u1 iz (0) mb mn mpt mbg mwr mwk mlf men), (rf_RW ct 0 mw 958 f)] ++ ws_3) H := by rw [he_8] at hP; exact hP
    have hD : va_D A ([(rf_RW ct 0 ma 958 fa), (mu, .inl (ct 1, 42, .inr (.inl su))), (mv, .inl (ct 1, 42, .inr (.inl sv))), (rf_MO mo mw ma mf m0 m1 mu mv u0 u1 iz (0) mb mn mpt mbg mwr mwk mlf men), (rf_RW ct 0 mw 958 f)] ++ ws_3) := by rw [he_8] at hD; exact hD
    refine lv_if_ne (tgt := 33) hx hb dX11_peakTemperature_5 (by decide) (fun hc => absurd (by decide) hc) (fun _ => ?_)
    refine lv_aload_n hx hb dX11_peakTemperature_8 rfl (lv_at hl 0 rfl) ?_
    refine lv_iload_n hx hb dX11_peakTemperature_9 rfl (lv_at hl 2 rfl) ?_
    refine lv_i2l hx hb dX11_peakTemperature_10 rfl ?_
    refine lv_lconst (v := 0) hx hb dX11_peakTemperature_11 (by decide) ?_
    refine lv_ldc2 hx hb hown (hts _ kl_RX11_394) dX11_peakTemperature_12 ?_
    obtain ⟨hP, hD⟩ := ty_ipPD (E1 := [(rf_RW ct 0 ma 958 fa), (mu, .inl (ct 1, 42, .inr (.inl su))), (mv, .inl (ct 1, 42, .inr (.inl sv))), (rf_MO mo mw ma mf m0 m1 mu mv u0 u1 iz (0) mb mn mpt mbg mwr mwk mlf men), (rf_RW ct 0 mw 958 f)]) (E2 := []) hP hD rfl ty_mva
    refine ty_Ki hP hD hS hA (va_runS (As := [.long p2.toInt64, .long 0, .long 10000]) (rest := [.ref mo]) ⟨hx, hb, hml, hown, hts⟩ (m_X11_in l D ct S ws_3 ph xx p2.toInt64 (0 : Int64) (10000 : Int64) _ hT hph hy1) (cm_S 3 hts kc_X11_in ki_RX11 kl_RX11_70 ks_X11_in kd_X11_in ⟨Nat.le_of_ble_eq_true rfl, Nat.le_of_ble_eq_true rfl⟩) (ty_preS hP hK hD hS hA hX) rfl rfl hl.1 rfl (lv_room (Nat.le_of_ble_eq_true rfl)) dX11_peakTemperature_15 ⟨Nat.le_of_ble_eq_true rfl, Nat.le_of_ble_eq_true rfl⟩) (fun r_9 u H locs hw_10 hP hD hS => ?_)
    obtain ⟨ws_11, rfl⟩ : ∃ z, z = u := ⟨_, rfl⟩
    obtain ⟨hT, rfl⟩ := hw_10
    obtain ⟨hP, hD⟩ := ty_shPD (w2 := ([(rf_RW ct 0 ma 958 fa), (mu, .inl (ct 1, 42, .inr (.inl su))), (mv, .inl (ct 1, 42, .inr (.inl sv))), (rf_MO mo mw ma mf m0 m1 mu mv u0 u1 iz (0) mb mn mpt mbg mwr mwk mlf men), (rf_RW ct 0 mw 958 f)] ++ ws_11)) hP hD rfl
    refine lv_if_ne (tgt := 25) hx hb dX11_peakTemperature_18 (by decide) (fun hc_12 => ?_) (fun hc_12 => ?_)
    · refine lv_iconst (v := 0) hx hb dX11_peakTemperature_25 (by decide) ?_
      refine lv_iconst (v := 2) hx hb dX11_peakTemperature_26 (by decide) ?_
      obtain ⟨hP, hD⟩ := ty_opPD (E1 := [(rf_RW ct 0 ma 958 fa), (mu, .inl (ct 1, 42, .inr (.inl su))), (mv, .inl (ct 1, 42, .inr (.inl sv))), (rf_RW ct 0 mw 958 f)]) (E2 := [(rf_MO mo mw ma mf m0 m1 mu mv u0 u1 iz (0) mb mn mpt mbg mwr mwk mlf men)]) (n := 5) [0, 1, 2, 4, 3] hP hD rfl rfl (by decide +kernel) ty_mva
      refine ty_Ki hP hD hS hA (va_runV (As := [.int 0, .int 2]) (rest := []) ⟨hx, hb, hml, hown, hts⟩ (m_throwsIf_0 l D ct S ws_11 ph xx mo mw ma mf m0 m1 mu mv u0 u1 iz mb mn mpt mbg mwr mwk mlf men (0 : Int32) (2 : Int32) _ hT hph hy1 (by decide)) (cm_V 2 hts kc_X11_throwsIf ki_RX11 kl_RX11_328 kv_X11_throwsIf kx_X11_throwsIf kd_X11_throwsIf ⟨Nat.le_of_ble_eq_true rfl, Nat.le_of_ble_eq_true rfl⟩) (ty_preE (ci := 11) (q0 := 4) hP hK hD hS hA hX rfl rfl) rfl rfl hl.1 rfl (lv_room (Nat.le_of_ble_eq_true rfl)) dX11_peakTemperature_27 ⟨Nat.le_of_ble_eq_true rfl, Nat.le_of_ble_eq_true rfl⟩) (fun r_13 u H locs hw_14 hP hD hS => ?_)
      obtain ⟨ws_15, th1_16⟩ := u
      obtain ⟨hT, hp_17⟩ := hw_14
      have hp_17 : ((r_13 = 0 ∧ (0 : Int32) = 0 ∧ th1_16 = 0) ∨ (r_13 = 1 ∧ ¬ (0 : Int32) = 0 ∧ th1_16 = (2 : Int32))) := hp_17
      obtain ⟨hP, hD⟩ := ty_shPD (w2 := ([(rf_RW ct 0 ma 958 fa), (mu, .inl (ct 1, 42, .inr (.inl su))), (mv, .inl (ct 1, 42, .inr (.inl sv))), (rf_RW ct 0 mw 958 f), (rf_MO mo mw ma mf m0 m1 mu mv u0 u1 iz th1_16 mb mn mpt mbg mwr mwk mlf men)] ++ ws_15)) hP hD rfl
      rcases hp_17 with ⟨rfl, hz_18⟩ | ⟨rfl, hz_19⟩
      · have he_20 := hz_18.2
        have hP : va_P D vwCl ([(rf_RW ct 0 ma 958 fa), (mu, .inl (ct 1, 42, .inr (.inl su))), (mv, .inl (ct 1, 42, .inr (.inl sv))), (rf_RW ct 0 mw 958 f), (rf_MO mo mw ma mf m0 m1 mu mv u0 u1 iz (0) mb mn mpt mbg mwr mwk mlf men)] ++ ws_15) H := by rw [he_20] at hP; exact hP
        have hD : va_D A ([(rf_RW ct 0 ma 958 fa), (mu, .inl (ct 1, 42, .inr (.inl su))), (mv, .inl (ct 1, 42, .inr (.inl sv))), (rf_RW ct 0 mw 958 f), (rf_MO mo mw ma mf m0 m1 mu mv u0 u1 iz (0) mb mn mpt mbg mwr mwk mlf men)] ++ ws_15) := by rw [he_20] at hD; exact hD
        refine lv_if_eq (tgt := 35) hx hb dX11_peakTemperature_30 (by decide) (fun _ => ?_) (fun hc => absurd (by decide) hc)
        refine lv_aload_n hx hb dX11_peakTemperature_35 rfl (lv_at hl 0 rfl) ?_
        obtain ⟨hP, hD⟩ := ty_opPD (E1 := []) (E2 := [(rf_MO mo mw ma mf m0 m1 mu mv u0 u1 iz (0) mb mn mpt mbg mwr mwk mlf men), (rf_RW ct 0 mw 958 f), (rf_RW ct 0 ma 958 fa), (mu, .inl (ct 1, 42, .inr (.inl su))), (mv, .inl (ct 1, 42, .inr (.inl sv)))]) (n := 5) [4, 3, 0, 1, 2] hP hD rfl rfl (by decide +kernel) ty_mva
        refine ty_Kv hP hD hS hA (va_runV (As := []) (rest := []) ⟨hx, hb, hml, hown, hts⟩ (m_X11_goesAside l D ct S ws_15 ph xx mo mw ma mf m0 m1 mu mv u0 u1 iz mb (0 : Int32) mn mpt mbg mwr mwk mlf men f G fa su sv _ hT hph hy1 hy11 hR) (cm_V 0 hts kc_X11_goesAside ki_RX11 kl_RX11_379 kv_X11_goesAside kx_X11_goesAside kd_X11_goesAside ⟨Nat.le_of_ble_eq_true rfl, Nat.le_of_ble_eq_true rfl⟩) (ty_preE (ci := 11) (q0 := 0) hP hK hD hS hA hX rfl rfl) rfl rfl hl.1 rfl (lv_room (Nat.le_of_ble_eq_true rfl)) dX11_peakTemperature_36 ⟨Nat.le_of_ble_eq_true rfl, Nat.le_of_ble_eq_true rfl⟩) (fun u H locs hw_22 hP hD hS => ?_)
        obtain ⟨ws_23, fa1_24, sv1_25⟩ := u
        obtain ⟨hT, hp_26⟩ := hw_22
        have hp_26 : (rf_R G (-1) fa1_24 ∧ rf_d (f 8) f fa1_24) ∧ q_eq 958 f fa1_24 ∧ q_cs su sv1_25 := hp_26
        obtain ⟨hP, hD⟩ := ty_shPD (w2 := ([(rf_MO mo mw ma mf m0 m1 mu mv u0 u1 iz (0) mb mn mpt mbg mwr mwk mlf (0)), (rf_RW ct 0 mw 958 f), (rf_RW ct 0 ma 958 fa1_24), (mu, .inl (ct 1, 42, .inr (.inl su))), (mv, .inl (ct 1, 42, .inr (.inl sv1_25)))] ++ ws_23)) hP hD rfl
        refine lv_aload_n hx hb dX11_peakTemperature_39 rfl (lv_at hl 0 rfl) ?_
        refine lv_iload_n hx hb dX11_peakTemperature_40 rfl (lv_at hl 1 rfl) ?_
        refine lv_bipush (v := 9) hx hb dX11_peakTemperature_41 (by decide) ?_
        obtain ⟨hP, hD⟩ := ty_opPD (E1 := [(rf_RW ct 0 ma 958 fa1_24), (mu, .inl (ct 1, 42, .inr (.inl su))), (mv, .inl (ct 1, 42, .inr (.inl sv1_25)))]) (E2 := [(rf_MO mo mw ma mf m0 m1 mu mv u0 u1 iz (0) mb mn mpt mbg mwr mwk mlf (0)), (rf_RW ct 0 mw 958 f)]) (n := 5) [2, 3, 4, 0, 1] hP hD rfl rfl (by decide +kernel) ty_mva
        refine ty_Ki hP hD hS hA (va_runV (As := [.int p1, .int 9]) (rest := []) ⟨hx, hb, hml, hown, hts⟩ (m_of_9 l D ct S ws_23 ph xx mo mw ma mf m0 m1 mu mv u0 u1 iz mb (0 : Int32) mn mpt mbg mwr mwk mlf (0 : Int32) f G (-1) p1 _ hT hph hy1 hR hz_6.1) (cm_V 2 hts kc_X11_of ki_RX11 kl_RX11_209 kv_X11_of kx_X11_of kd_X11_of ⟨Nat.le_of_ble_eq_true rfl, Nat.le_of_ble_eq_true rfl⟩) (ty_preE (ci := 11) (q0 := 3) hP hK hD hS hA hX rfl rfl) rfl rfl hl.1 rfl (lv_room (Nat.le_of_ble_eq_true rfl)) dX11_peakTemperature_43 ⟨Nat.le_of_ble_eq_true rfl, Nat.le_of_ble_eq_true rfl⟩) (fun r_27 u H locs hw_28 hP hD hS => ?_)
        obtain ⟨ws_29, rfl⟩ : ∃ z, z = u := ⟨_, rfl⟩
        obtain ⟨hT, rfl⟩ := hw_28
        obtain ⟨hP, hD⟩ := ty_shPD (w2 := ([(rf_RW ct 0 ma 958 fa1_24), (mu, .inl (ct 1, 42, .inr (.inl su))), (mv, .inl (ct 1, 42, .inr (.inl sv1_25))), (rf_MO mo mw ma mf m0 m1 mu mv u0 u1 iz (0) mb mn mpt mbg mwr mwk mlf (0)), (rf_RW ct 0 mw 958 f)] ++ ws_29)) hP hD rfl
        refine lv_istore_n (lv' := [(3, .int (rf_of f p1 9)), (0, .ref mo), (1, .int p1), (2, .int p2)]) hx hb dX11_peakTemperature_46 rfl hl (by decide) rfl (fun ls hl => ?_)
        refine lv_iconst (v := 0) hx hb dX11_peakTemperature_47 (by decide) ?_
        refine lv_istore (lv' := [(4, .int 0), (3, .int (rf_of f p1 9)), (0, .ref mo), (1, .int p1), (2, .int p2)]) hx hb dX11_peakTemperature_48 hl (by decide) rfl (fun ls hl => ?_)
        refine ty_loop (I := fun μ H locs ls => ∃ (ws : va_W) (y_30 : Int32) (y_31 : Int32) (y_32 : Int32) (f_33 : Nat → Int32) (g_34 : Nat → Int64), μ = (2147483648 - y_31.toInt).toNat ∧ ty_V ct S ph ws ∧ va_P D vwCl ([(rf_RW ct 0 ma 958 fa1_24), (mu, .inl (ct 1, 42, .inr (.inl g_34))), (mv, .inl (ct 1, 42, .inr (.inl sv1_25))), (rf_MO mo mw ma mf m0 m1 mu mv u0 u1 iz (0) mb mn mpt mbg mwr mwk mlf y_32), (rf_RW ct 0 mw 958 f_33)] ++ ws) H ∧ va_D A ([(rf_RW ct 0 ma 958 fa1_24), (mu, .inl (ct 1, 42, .inr (.inl g_34))), (mv, .inl (ct 1, 42, .inr (.inl sv1_25))), (rf_MO mo mw ma mf m0 m1 mu mv u0 u1 iz (0) mb mn mpt mbg mwr mwk mlf y_32), (rf_RW ct 0 mw 958 f_33)] ++ ws) ∧ va_S A s.heap H locs ∧ lv_has ls 5 [(0, .ref mo), (1, .int p1), (2, .int p2), (3, .int y_30), (4, .int y_31)] ∧ rf_R G (-1) f_33 ∧ (0 ≤ y_31.toInt ∧ y_31.toInt ≤ p2.toInt) ∧ q_pk G p1 y_31.toInt.toNat (rf_of f p1 9) 0 f su y_30 y_32 f_33 g_34) ⟨_, ws_29, (rf_of f p1 9), (0 : Int32), (0 : Int32), f, su, rfl, hT, hP, hD, hS, (lv_sub hl [2, 3, 4, 1, 0] rfl), hR, ⟨⟨by decide, (by have := (rf_rngc (L := 0) (U := 10000) (by decide) (by decide) hc_12); have z : (0 : Int32).toInt = 0 := (by decide); omega)⟩, q_pk0⟩⟩ (fun μ H locs ls hI ih_50 => ?_)
        obtain ⟨ws, y_30, y_31, y_32, f_33, g_34, rfl, hT, hP, hD, hS, hl, hR_50, hex_50⟩ := hI
        refine lv_iload hx hb dX11_peakTemperature_50 (lv_at hl 4 rfl) ?_
        refine lv_iload_n hx hb dX11_peakTemperature_52 rfl (lv_at hl 2 rfl) ?_
        refine lv_icmp_ge (tgt := 79) hx hb dX11_peakTemperature_53 (by decide) (fun hc_35 => ?_) (fun hc_35 => ?_)
        · refine lv_aload_n hx hb dX11_peakTemperature_79 rfl (lv_at hl 0 rfl) ?_
          obtain ⟨hP, hD⟩ := ty_opPD (E1 := []) (E2 := [(rf_MO mo mw ma mf m0 m1 mu mv u0 u1 iz (0) mb mn mpt mbg mwr mwk mlf y_32), (rf_RW ct 0 mw 958 f_33), (rf_RW ct 0 ma 958 fa1_24), (mu, .inl (ct 1, 42, .inr (.inl g_34))), (mv, .inl (ct 1, 42, .inr (.inl sv1_25)))]) (n := 5) [3, 4, 0, 1, 2] hP hD rfl rfl (by decide +kernel) ty_mva
          refine ty_Kv hP hD hS hA (va_runV (As := []) (rest := []) ⟨hx, hb, hml, hown, hts⟩ (m_X11_comesBack l D ct S ws ph xx mo mw ma mf m0 m1 mu mv u0 u1 iz mb (0 : Int32) mn mpt mbg mwr mwk mlf y_32 f_33 G fa1_24 g_34 sv1_25 _ hT hph hy1 hy11 hp_26.1.1) (cm_V 0 hts kc_X11_comesBack ki_RX11 kl_RX11_385 kv_X11_comesBack kx_X11_comesBack kd_X11_comesBack ⟨Nat.le_of_ble_eq_true rfl, Nat.le_of_ble_eq_true rfl⟩) (ty_preE (ci := 11) (q0 := 0) hP hK hD hS hA hX rfl rfl) rfl rfl hl.1 rfl (lv_room (Nat.le_of_ble_eq_true rfl)) dX11_peakTemperature_80 ⟨Nat.le_of_ble_eq_true rfl, Nat.le_of_ble_eq_true rfl⟩) (fun u H locs hw_37 hP hD hS => ?_)
          obtain ⟨ws_38, f1_39, su1_40⟩ := u
          obtain ⟨hT, hp_41⟩ := hw_37
          have hp_41 : rf_R G (-1) f1_39 ∧ (rf_d (fa1_24 8) fa1_24 f1_39 ∧ q_eq 958 fa1_24 f1_39 ∧ q_cs sv1_25 su1_40) := hp_41
          have hR_42 := hp_41.1
          obtain ⟨hP, hD⟩ := ty_shPD (w2 := ([(rf_MO mo mw ma mf m0 m1 mu mv u0 u1 iz (0) mb mn mpt mbg mwr mwk mlf y_32), (rf_RW ct 0 mw 958 f1_39), (rf_RW ct 0 ma 958 fa1_24), (mu, .inl (ct 1, 42, .inr (.inl su1_40))), (mv, .inl (ct 1, 42, .inr (.inl sv1_25)))] ++ ws_38)) hP hD rfl
          have hD_44 := rf_dg (rf_dr f) hp_26.1.2 hp_41.2.1
          refine lv_iload_n hx hb dX11_peakTemperature_83 rfl (lv_at hl 3 rfl) ?_
          exact W.iret (v := y_30) hx hb hr (fun t ht hW => ⟨⟨y_30, (ws_38, y_32, (0 : Int32), f1_39, fa1_24, su1_40, sv1_25), rfl, ⟨hT, ⟨⟨th1_4, trivial, (Or.inl ⟨hz_6, (Or.inl ⟨hc_12, ⟨th1_16, trivial, ⟨hz_18, ⟨fa1_24, sv1_25, hp_26.2, ⟨y_30, y_31, y_32, f_33, g_34, hex_50, ⟨hc_35, ⟨f1_39, su1_40, hp_41.2.2, ⟨rfl, rfl, rfl, rfl, rfl, rfl, rfl⟩⟩⟩⟩⟩⟩⟩⟩)⟩)⟩, ⟨hD_44, hR_42⟩⟩⟩, by rw [ht]; exact hP, by rw [hAe]; exact hD⟩, hS.F ht⟩) hS.2.2 dX11_peakTemperature_84
        · refine lv_aload_n hx hb dX11_peakTemperature_56 rfl (lv_at hl 0 rfl) ?_
          refine lv_iload_n hx hb dX11_peakTemperature_57 rfl (lv_at hl 1 rfl) ?_
          obtain ⟨hP, hD⟩ := ty_opPD (E1 := [(rf_RW ct 0 ma 958 fa1_24), (mv, .inl (ct 1, 42, .inr (.inl sv1_25)))]) (E2 := [(rf_MO mo mw ma mf m0 m1 mu mv u0 u1 iz (0) mb mn mpt mbg mwr mwk mlf y_32), (rf_RW ct 0 mw 958 f_33), (mu, .inl (ct 1, 42, .inr (.inl g_34)))]) (n := 5) [0, 2, 3, 4, 1] hP hD rfl rfl (by decide +kernel) ty_mva
          refine ty_Kv hP hD hS hA (va_runV (As := [.int p1]) (rest := []) ⟨hx, hb, hml, hown, hts⟩ (m_X11_alone l D ct S ws ph xx mo mw ma mf m0 m1 mu mv u0 u1 iz mb (0 : Int32) mn mpt mbg mwr mwk mlf y_32 f_33 G g_34 p1 _ hT hph hy1 hy11 hR_50 hz_6.1) (cm_V 1 hts kc_X11_alone ki_RX11 kl_RX11_382 kv_X11_alone kx_X11_alone kd_X11_alone ⟨Nat.le_of_ble_eq_true rfl, Nat.le_of_ble_eq_true rfl⟩) (ty_preE (ci := 11) (q0 := 2) hP hK hD hS hA hX rfl rfl) rfl rfl hl.1 rfl (lv_room (Nat.le_of_ble_eq_true rfl)) dX11_peakTemperature_58 ⟨Nat.le_of_ble_eq_true rfl, Nat.le_of_ble_eq_true rfl⟩) (fun u H locs hw_46 hP hD hS => ?_)
          obtain ⟨ws_47, men1_48, f1_49, su1_50⟩ := u
          obtain ⟨hT, hp_51⟩ := hw_46
          have hp_51 : (q_X11_alone y_32 f_33 G g_34 p1 men1_48 f1_49 su1_50) ∧ rf_d ((f_33 8) + 1) f_33 f1_49 ∧ rf_R G (-1) f1_49 := hp_51
          obtain ⟨hq_52, hp_53⟩ := hp_51
          obtain ⟨hd_54, hq_55⟩ := hp_53
          have hR_56 := hq_55
          obtain ⟨hP, hD⟩ := ty_shPD (w2 := ([(rf_RW ct 0 ma 958 fa1_24), (mv, .inl (ct 1, 42, .inr (.inl sv1_25))), (rf_MO mo mw ma mf m0 m1 mu mv u0 u1 iz (0) mb mn mpt mbg mwr mwk mlf men1_48), (rf_RW ct 0 mw 958 f1_49), (mu, .inl (ct 1, 42, .inr (.inl su1_50)))] ++ ws_47)) hP hD rfl
          refine lv_iload_n hx hb dX11_peakTemperature_61 rfl (lv_at hl 3 rfl) ?_
          refine lv_aload_n hx hb dX11_peakTemperature_62 rfl (lv_at hl 0 rfl) ?_
          refine lv_iload_n hx hb dX11_peakTemperature_63 rfl (lv_at hl 1 rfl) ?_
          refine lv_bipush (v := 9) hx hb dX11_peakTemperature_64 (by decide) ?_
          obtain ⟨hP, hD⟩ := ty_opPD (E1 := [(rf_RW ct 0 ma 958 fa1_24), (mv, .inl (ct 1, 42, .inr (.inl sv1_25))), (mu, .inl (ct 1, 42, .inr (.inl su1_50)))]) (E2 := [(rf_MO mo mw ma mf m0 m1 mu mv u0 u1 iz (0) mb mn mpt mbg mwr mwk mlf men1_48), (rf_RW ct 0 mw 958 f1_49)]) (n := 5) [0, 1, 4, 2, 3] hP hD rfl rfl (by decide +kernel) ty_mva
          refine ty_Ki hP hD hS hA (va_runV (As := [.int p1, .int 9]) (rest := [.int y_30]) ⟨hx, hb, hml, hown, hts⟩ (m_of_9 l D ct S ws_47 ph xx mo mw ma mf m0 m1 mu mv u0 u1 iz mb (0 : Int32) mn mpt mbg mwr mwk mlf men1_48 f1_49 G (-1) p1 _ hT hph hy1 hR_56 hz_6.1) (cm_V 2 hts kc_X11_of ki_RX11 kl_RX11_209 kv_X11_of kx_X11_of kd_X11_of ⟨Nat.le_of_ble_eq_true rfl, Nat.le_of_ble_eq_true rfl⟩) (ty_preE (ci := 11) (q0 := 3) hP hK hD hS hA hX rfl rfl) rfl rfl hl.1 rfl (lv_room (Nat.le_of_ble_eq_true rfl)) dX11_peakTemperature_66 ⟨Nat.le_of_ble_eq_true rfl, Nat.le_of_ble_eq_true rfl⟩) (fun r_58 u H locs hw_59 hP hD hS => ?_)
          obtain ⟨ws_60, rfl⟩ : ∃ z, z = u := ⟨_, rfl⟩
          obtain ⟨hT, rfl⟩ := hw_59
          obtain ⟨hP, hD⟩ := ty_shPD (w2 := ([(rf_RW ct 0 ma 958 fa1_24), (mv, .inl (ct 1, 42, .inr (.inl sv1_25))), (mu, .inl (ct 1, 42, .inr (.inl su1_50))), (rf_MO mo mw ma mf m0 m1 mu mv u0 u1 iz (0) mb mn mpt mbg mwr mwk mlf men1_48), (rf_RW ct 0 mw 958 f1_49)] ++ ws_60)) hP hD rfl
          refine va_mmax hx hb (hml.trans hl.1.symm) hown (hts _ kl_RX11_225) (hts _ jm_max_s) (hts _ ki_RJ9) (hts _ jm_max_c) (Nat.le_of_ble_eq_true rfl) (Nat.le_of_ble_eq_true rfl) (Nat.le_of_ble_eq_true rfl) (Nat.le_of_ble_eq_true rfl) dX11_peakTemperature_69 ?_
          refine lv_istore_n (lv' := [(3, .int (if y_30 < (rf_of f1_49 p1 9) then (rf_of f1_49 p1 9) else y_30)), (0, .ref mo), (1, .int p1), (2, .int p2), (4, .int y_31)]) hx hb dX11_peakTemperature_72 rfl hl (by decide) rfl (fun ls hl => ?_)
          refine lv_iinc (v := (y_31 + Int32.ofInt 1)) (lv' := [(4, .int (y_31 + Int32.ofInt 1)), (3, .int (if y_30 < (rf_of f1_49 p1 9) then (rf_of f1_49 p1 9) else y_30)), (0, .ref mo), (1, .int p1), (2, .int p2)]) hx hb dX11_peakTemperature_73 hl (k := 4) rfl rfl (by decide) rfl (fun ls hl => ?_)
          refine lv_goto (tgt := 50) hx hb dX11_peakTemperature_76 (by decide) ?_
          obtain ⟨hP, hD⟩ := ty_ordPD (E2 := [(rf_RW ct 0 ma 958 fa1_24), (mu, .inl (ct 1, 42, .inr (.inl su1_50))), (mv, .inl (ct 1, 42, .inr (.inl sv1_25))), (rf_MO mo mw ma mf m0 m1 mu mv u0 u1 iz (0) mb mn mpt mbg mwr mwk mlf men1_48), (rf_RW ct 0 mw 958 f1_49)]) (n := 5) [0, 2, 1, 3, 4] hP hD rfl rfl (by decide +kernel)
          exact ih_50 _ _ _ _ (ty_inc (cm_lt hc_35)) ⟨ws_60, (if y_30 < (rf_of f1_49 p1 9) then (rf_of f1_49 p1 9) else y_30), (y_31 + Int32.ofInt 1), men1_48, f1_49, su1_50, rfl, hT, hP, hD, hS, (lv_sub hl [2, 3, 4, 1, 0] rfl), hR_56, ⟨q_yb rfl hex_50.1 hc_35, q_pks hex_50.1.1 hc_35 hex_50.2 hq_52 rfl⟩⟩
      · exact absurd rfl hz_19.1
    · refine lv_iconst (v := 1) hx hb dX11_peakTemperature_21 (by decide) ?_
      refine lv_goto (tgt := 26) hx hb dX11_peakTemperature_22 (by decide) ?_
      refine lv_iconst (v := 2) hx hb dX11_peakTemperature_26 (by decide) ?_
      obtain ⟨hP, hD⟩ := ty_opPD (E1 := [(rf_RW ct 0 ma 958 fa), (mu, .inl (ct 1, 42, .inr (.inl su))), (mv, .inl (ct 1, 42, .inr (.inl sv))), (rf_RW ct 0 mw 958 f)]) (E2 := [(rf_MO mo mw ma mf m0 m1 mu mv u0 u1 iz (0) mb mn mpt mbg mwr mwk mlf men)]) (n := 5) [0, 1, 2, 4, 3] hP hD rfl rfl (by decide +kernel) ty_mva
      refine ty_Ki hP hD hS hA (va_runV (As := [.int 1, .int 2]) (rest := []) ⟨hx, hb, hml, hown, hts⟩ (m_throwsIf_0 l D ct S ws_11 ph xx mo mw ma mf m0 m1 mu mv u0 u1 iz mb mn mpt mbg mwr mwk mlf men (1 : Int32) (2 : Int32) _ hT hph hy1 (by decide)) (cm_V 2 hts kc_X11_throwsIf ki_RX11 kl_RX11_328 kv_X11_throwsIf kx_X11_throwsIf kd_X11_throwsIf ⟨Nat.le_of_ble_eq_true rfl, Nat.le_of_ble_eq_true rfl⟩) (ty_preE (ci := 11) (q0 := 4) hP hK hD hS hA hX rfl rfl) rfl rfl hl.1 rfl (lv_room (Nat.le_of_ble_eq_true rfl)) dX11_peakTemperature_27 ⟨Nat.le_of_ble_eq_true rfl, Nat.le_of_ble_eq_true rfl⟩) (fun r_61 u H locs hw_62 hP hD hS => ?_)
      obtain ⟨ws_63, th1_64⟩ := u
      obtain ⟨hT, hp_65⟩ := hw_62
      have hp_65 : ((r_61 = 0 ∧ (1 : Int32) = 0 ∧ th1_64 = 0) ∨ (r_61 = 1 ∧ ¬ (1 : Int32) = 0 ∧ th1_64 = (2 : Int32))) := hp_65
      obtain ⟨hP, hD⟩ := ty_shPD (w2 := ([(rf_RW ct 0 ma 958 fa), (mu, .inl (ct 1, 42, .inr (.inl su))), (mv, .inl (ct 1, 42, .inr (.inl sv))), (rf_RW ct 0 mw 958 f), (rf_MO mo mw ma mf m0 m1 mu mv u0 u1 iz th1_64 mb mn mpt mbg mwr mwk mlf men)] ++ ws_63)) hP hD rfl
      rcases hp_65 with ⟨rfl, hz_66⟩ | ⟨rfl, hz_67⟩
      · exact absurd hz_66.1 (by decide)
      · have he_68 := hz_67.2
        have hP : va_P D vwCl ([(rf_RW ct 0 ma 958 fa), (mu, .inl (ct 1, 42, .inr (.inl su))), (mv, .inl (ct 1, 42, .inr (.inl sv))), (rf_RW ct 0 mw 958 f), (rf_MO mo mw ma mf m0 m1 mu mv u0 u1 iz (2) mb mn mpt mbg mwr mwk mlf men)] ++ ws_63) H := by rw [he_68] at hP; exact hP
        have hD : va_D A ([(rf_RW ct 0 ma 958 fa), (mu, .inl (ct 1, 42, .inr (.inl su))), (mv, .inl (ct 1, 42, .inr (.inl sv))), (rf_RW ct 0 mw 958 f), (rf_MO mo mw ma mf m0 m1 mu mv u0 u1 iz (2) mb mn mpt mbg mwr mwk mlf men)] ++ ws_63) := by rw [he_68] at hD; exact hD
        refine lv_if_eq (tgt := 35) hx hb dX11_peakTemperature_30 (by decide) (fun hc => absurd hc (by decide)) (fun _ => ?_)
        refine lv_iconst (v := 0) hx hb dX11_peakTemperature_33 (by decide) ?_
        obtain ⟨hP, hD⟩ := ty_ordPD (E2 := [(rf_MO mo mw ma mf m0 m1 mu mv u0 u1 iz (2) mb mn mpt mbg mwr mwk mlf men), (rf_RW ct 0 mw 958 f), (rf_RW ct 0 ma 958 fa), (mu, .inl (ct 1, 42, .inr (.inl su))), (mv, .inl (ct 1, 42, .inr (.inl sv)))]) (n := 5) [4, 3, 0, 1, 2] hP hD rfl rfl (by decide +kernel)
        exact W.iret (v := 0) hx hb hr (fun t ht hW => ⟨⟨0, (ws_63, men, (2 : Int32), f, fa, su, sv), rfl, ⟨hT, ⟨⟨th1_4, trivial, (Or.inl ⟨hz_6, (Or.inr ⟨hc_12, ⟨th1_64, trivial, ⟨hz_67, ⟨rfl, rfl, rfl, rfl, rfl, rfl, rfl⟩⟩⟩⟩)⟩)⟩, ⟨(rf_dr f), hR⟩⟩⟩, by rw [ht]; exact hP, by rw [hAe]; exact hD⟩, hS.F ht⟩) hS.2.2 dX11_peakTemperature_34
  · have he_69 := hz_7.2
    have hP : va_P D vwCl ([(rf_RW ct 0 ma 958 fa), (mu, .inl (ct 1, 42, .inr (.inl su))), (mv, .inl (ct 1, 42, .inr (.inl sv))), (rf_MO mo mw ma mf m0 m1 mu mv u0 u1 iz (1) mb mn mpt mbg mwr mwk mlf men), (rf_RW ct 0 mw 958 f)] ++ ws_3) H := by rw [he_69] at hP; exact hP
    have hD : va_D A ([(rf_RW ct 0 ma 958 fa), (mu, .inl (ct 1, 42, .inr (.inl su))), (mv, .inl (ct 1, 42, .inr (.inl sv))), (rf_MO mo mw ma mf m0 m1 mu mv u0 u1 iz (1) mb mn mpt mbg mwr mwk mlf men), (rf_RW ct 0 mw 958 f)] ++ ws_3) := by rw [he_69] at hD; exact hD
    refine lv_if_ne (tgt := 33) hx hb dX11_peakTemperature_5 (by decide) (fun _ => ?_) (fun hc => absurd hc (by decide))
    refine lv_iconst (v := 0) hx hb dX11_peakTemperature_33 (by decide) ?_
    obtain ⟨hP, hD⟩ := ty_ordPD (E2 := [(rf_MO mo mw ma mf m0 m1 mu mv u0 u1 iz (1) mb mn mpt mbg mwr mwk mlf men), (rf_RW ct 0 mw 958 f), (rf_RW ct 0 ma 958 fa), (mu, .inl (ct 1, 42, .inr (.inl su))), (mv, .inl (ct 1, 42, .inr (.inl sv)))]) (n := 5) [3, 4, 0, 1, 2] hP hD rfl rfl (by decide +kernel)
    exact W.iret (v := 0) hx hb hr (fun t ht hW => ⟨⟨0, (ws_3, men, (1 : Int32), f, fa, su, sv), rfl, ⟨hT, ⟨⟨th1_4, trivial, (Or.inr ⟨hz_7, ⟨rfl, rfl, rfl, rfl, rfl, rfl, rfl⟩⟩)⟩, ⟨(rf_dr f), hR⟩⟩⟩, by rw [ht]; exact hP, by rw [hAe]; exact hD⟩, hS.F ht⟩) hS.2.2 dX11_peakTemperature_34
def q_X11_settledIn (men : Int32) (f : Nat → Int32) (G : Nat → Int32) (fa : Nat → Int32) (su : Nat → Int64) (sv : Nat → Int64) (p1 : Int32) (r : Int32) (men1 : Int32) (th1 : Int32) (f1 : Nat → Int32) (fa1 : Nat → Int32) (su1 : Nat → Int64) (sv1 : Nat → Int64) : Prop := (∃ (th1_4 : Int32), True ∧ ((((0 ≤ p1.toInt ∧ p1.toInt < (G 9).toInt) ∧ th1_4 = 0) ∧ ((¬ rf_of f p1 0 = (1 : Int32) ∧ (∃ (fa1_18 : Nat → Int32) (sv1_19 : Nat → Int64), (q_eq 958 f fa1_18 ∧ q_cs su sv1_19) ∧ (∃ (y_21 : Int32) (y_22 : Int32) (f_23 : Nat → Int32) (g_24 : Nat → Int64), ((0 ≤ y_21.toInt ∧ y_21.toInt ≤ 10001) ∧ q_ch G p1 (fun _ g => ¬ rf_of g p1 8 = 0) y_21.toInt.toNat 0 f su y_22 f_23 g_24) ∧ (((rf_of f_23 p1 8) = (0 : Int32) ∧ (∃ (f1_32 : Nat → Int32) (su1_33 : Nat → Int64), (q_eq 958 fa1_18 f1_32 ∧ q_cs sv1_19 su1_33) ∧ ((y_21 ≤ (10000 : Int32) ∧ (r = y_21 ∧ men1 = y_22 ∧ th1 = 0 ∧ f1 = f1_32 ∧ fa1 = fa1_18 ∧ su1 = su1_33 ∧ sv1 = sv1_19)) ∨ (¬ y_21 ≤ (10000 : Int32) ∧ (r = (-1) ∧ men1 = y_22 ∧ th1 = 0 ∧ f1 = f1_32 ∧ fa1 = fa1_18 ∧ su1 = su1_33 ∧ sv1 = sv1_19))))) ∨ (¬ (rf_of f_23 p1 8) = (0 : Int32) ∧ ((10000 : Int32) < y_21 ∧ (∃ (f1_43 : Nat → Int32) (su1_44 : Nat → Int64), (q_eq 958 fa1_18 f1_43 ∧ q_cs sv1_19 su1_44) ∧ ((y_21 ≤ (10000 : Int32) ∧ (r = y_21 ∧ men1 = y_22 ∧ th1 = 0 ∧ f1 = f1_43 ∧ fa1 = fa1_18 ∧ su1 = su1_44 ∧ sv1 = sv1_19)) ∨ (¬ y_21 ≤ (10000 : Int32) ∧ (r = (-1) ∧ men1 = y_22 ∧ th1 = 0 ∧ f1 = f1_43 ∧ fa1 = fa1_18 ∧ su1 = su1_44 ∧ sv1 = sv1_19)))))))))) ∨ (rf_of f p1 0 = (1 : Int32) ∧ (r = (-1) ∧ men1 = men ∧ th1 = 0 ∧ f1 = f ∧ fa1 = fa ∧ su1 = su ∧ sv1 = sv)))) ∨ ((¬ (0 ≤ p1.toInt ∧ p1.toInt < (G 9).toInt) ∧ th1_4 = 1) ∧ (r = 0 ∧ men1 = men ∧ th1 = 1 ∧ f1 = f ∧ fa1 = fa ∧ su1 = su ∧ sv1 = sv))))
set_option maxRecDepth 100000 in
set_option maxHeartbeats 4000000 in
theorem m_X11_settledIn (l : Launch) (D : va_G) (ct : Nat → ClassId) (S : ty_S) (ws : va_W) (ph : va_W → Prop) (xx : Nat → Nat → Nat → Prop) (mo : Nat) (mw : Nat) (ma : Nat) (mf : Nat) (m0 : Nat) (m1 : Nat) (mu : Nat) (mv : Nat) (u0 : Nat) (u1 : Nat) (iz : Nat) (mb : Nat) (th : Int32) (mn : Int32) (mpt : Int32) (mbg : Int32) (mwr : Int32) (mwk : Int32) (mlf : Int32) (men : Int32) (f : Nat → Int32) (G : Nat → Int32) (fa : Nat → Int32) (su : Nat → Int64) (sv : Nat → Int64) (p1 : Int32) (sz : Nat) (hT : ty_V ct S ph ws) (hph : ty_C ph xx) (hy1 : ty_y1 xx) (hy11 : ty_y0 xx 11) (hR : rf_R G (-1) f) : Met l yX11_settledIn (ws_ yX11_settledIn cX11_settledIn 3 (some .int)) ({ frames := 8, cells := 0, slots := 0, locals := 186 } : Room) (va_Pc [.ref mo, .int p1] (cmP D ct sz ([(rf_MO mo mw ma mf m0 m1 mu mv u0 u1 iz th mb mn mpt mbg mwr mwk mlf men), (rf_RW ct 0 mw 958 f), (rf_RW ct 0 ma 958 fa), (mu, .inl (ct 1, 42, .inr (.inl su))), (mv, .inl (ct 1, 42, .inr (.inl sv)))] ++ ws))) (va_Qi (fun (r : Int32) (u : va_W × Int32 × Int32 × (Nat → Int32) × (Nat → Int32) × (Nat → Int64) × (Nat → Int64)) => match u with | (u9, men1, th1, f1, fa1, su1, sv1) => ty_V ct S ph u9 ∧ (q_X11_settledIn men f G fa su sv p1 r men1 th1 f1 fa1 su1 sv1) ∧ rf_d (f 8) f f1 ∧ rf_R G (-1) f1) (cmB D ([(rf_MO mo mw ma mf m0 m1 mu mv u0 u1 iz th mb mn mpt mbg mwr mwk mlf men), (rf_RW ct 0 mw 958 f), (rf_RW ct 0 ma 958 fa), (mu, .inl (ct 1, 42, .inr (.inl su))), (mv, .inl (ct 1, 42, .inr (.inl sv)))] ++ ws) sz (fun (u : va_W × Int32 × Int32 × (Nat → Int32) × (Nat → Int32) × (Nat → Int64) × (Nat → Int64)) => match u with | (u9, men1, th1, f1, fa1, su1, sv1) => ([(rf_MO mo mw ma mf m0 m1 mu mv u0 u1 iz th1 mb mn mpt mbg mwr mwk mlf men1), (rf_RW ct 0 mw 958 f1), (rf_RW ct 0 ma 958 fa1), (mu, .inl (ct 1, 42, .inr (.inl su1))), (mv, .inl (ct 1, 42, .inr (.inl sv1)))] ++ u9))) (va_A ([(rf_MO mo mw ma mf m0 m1 mu mv u0 u1 iz th mb mn mpt mbg mwr mwk mlf men), (rf_RW ct 0 mw 958 f), (rf_RW ct 0 ma 958 fa), (mu, .inl (ct 1, 42, .inr (.inl su))), (mv, .inl (ct 1, 42, .inr (.inl sv)))] ++ ws) sz)) 0 0 (va_A ([(rf_MO mo mw ma mf m0 m1 mu mv u0 u1 iz th mb mn mpt mbg mwr mwk mlf men), (rf_RW ct 0 mw 958 f), (rf_RW ct 0 ma 958 fa), (mu, .inl (ct 1, 42, .inr (.inl su))), (mv, .inl (ct 1, 42, .inr (.inl sv)))] ++ ws) sz) := by
  refine Met.ofW (cc := cX11_settledIn) (maxL := 3) (ret := (some .int)) (by decide) rfl ?_
  intro p e s m args below meth c s₁ B hml hv
  obtain ⟨rfl, hsz, hP, hK, hD0, hX⟩ := hv
  have hx := B.exec
  have hb := B.bytes
  have hr := B.returns
  have hts := ws_all (atoms_spec (ws := ws_ yX11_settledIn cX11_settledIn 3 (some .int)) B.pre)
  have hown : s.vm.findClass RX11 = some m.cls := findClass_of_methodNamed B.named
  have hlocks := B.notSynchronized
  subst hsz
  have hD := hD0.self (sz := s.heap.size)
  generalize hAe : va_A ([(rf_MO mo mw ma mf m0 m1 mu mv u0 u1 iz th mb mn mpt mbg mwr mwk mlf men), (rf_RW ct 0 mw 958 f), (rf_RW ct 0 ma 958 fa), (mu, .inl (ct 1, 42, .inr (.inl su))), (mv, .inl (ct 1, 42, .inr (.inl sv)))] ++ ws) s.heap.size = A at hD hX ⊢
  have hA : ∀ q : Nat, s.heap.size ≤ q → A q := fun q h => by rw [← hAe]; exact Or.inr h
  have hS : va_S A s.heap s.heap [] := va_S.rf
  have hl := lv_entry ([.ref mo, .int p1]) (n := 3) (Nat.le_of_ble_eq_true rfl)
  rw [lg_entry_eq]
  generalize (lg_sl ([.ref mo, .int p1]) ++ List.replicate (3 - (lg_sl ([.ref mo, .int p1])).length) Slot.unset).toArray = ls at hl ⊢
  have hl : lv_has ls 3 [(0, .ref mo), (1, .int p1)] := hl
  refine lv_aload_n hx hb dX11_settledIn_0 rfl (lv_at hl 0 rfl) ?_
  refine lv_iload_n hx hb dX11_settledIn_1 rfl (lv_at hl 1 rfl) ?_
  obtain ⟨hP, hD⟩ := ty_opPD (E1 := [(rf_RW ct 0 ma 958 fa), (mu, .inl (ct 1, 42, .inr (.inl su))), (mv, .inl (ct 1, 42, .inr (.inl sv)))]) (E2 := [(rf_MO mo mw ma mf m0 m1 mu mv u0 u1 iz th mb mn mpt mbg mwr mwk mlf men), (rf_RW ct 0 mw 958 f)]) (n := 5) [2, 3, 4, 0, 1] hP hD rfl rfl (by decide +kernel) ty_mva
  refine ty_Ki hP hD hS hA (va_runV (As := [.int p1]) (rest := []) ⟨hx, hb, hml, hown, hts⟩ (m_X11_noChannel l D ct S ws ph xx mo mw ma mf m0 m1 mu mv u0 u1 iz mb th mn mpt mbg mwr mwk mlf men f G (-1) p1 _ hT hph hy1 hR) (cm_V 1 hts kc_X11_noChannel ki_RX11 kl_RX11_344 kv_X11_noChannel kx_X11_noChannel kd_X11_noChannel ⟨Nat.le_of_ble_eq_true rfl, Nat.le_of_ble_eq_true rfl⟩) (ty_preE (ci := 11) (q0 := 3) hP hK hD hS hA hX rfl rfl) rfl rfl hl.1 rfl (lv_room (Nat.le_of_ble_eq_true rfl)) dX11_settledIn_2 ⟨Nat.le_of_ble_eq_true rfl, Nat.le_of_ble_eq_true rfl⟩) (fun r_1 u H locs hw_2 hP hD hS => ?_)
  obtain ⟨ws_3, th1_4⟩ := u
  obtain ⟨hT, hp_5⟩ := hw_2
  have hp_5 : ((r_1 = 0 ∧ (0 ≤ p1.toInt ∧ p1.toInt < (G 9).toInt) ∧ th1_4 = 0) ∨ (r_1 = 1 ∧ ¬ (0 ≤ p1.toInt ∧ p1.toInt < (G 9).toInt) ∧ th1_4 = 1)) := hp_5
  obtain ⟨hP, hD⟩ := ty_shPD (w2 := ([(rf_RW ct 0 ma 958 fa), (mu, .inl (ct 1, 42, .inr (.inl su))), (mv, .inl (ct 1, 42, .inr (.inl sv))), (rf_MO mo mw ma mf m0 m1 mu mv u0 u1 iz th1_4 mb mn mpt mbg mwr mwk mlf men), (rf_RW ct 0 mw 958 f)] ++ ws_3)) hP hD rfl
  rcases hp_5 with ⟨rfl, hz_6⟩ | ⟨rfl, hz_7⟩
  · have he_8 := hz_6.2
    have hP : va_P D vwCl ([(rf_RW ct 0 ma 958 fa), (mu, .inl (ct 1, 42, .inr (.inl su))), (mv, .inl (ct 1, 42, .inr (.inl sv))), (rf_MO mo mw ma mf m0 m1 mu mv u0 u1 iz (0) mb mn mpt mbg mwr mwk mlf men), (rf_RW ct 0 mw 958 f)] ++ ws_3) H := by rw [he_8] at hP; exact hP
    have hD : va_D A ([(rf_RW ct 0 ma 958 fa), (mu, .inl (ct 1, 42, .inr (.inl su))), (mv, .inl (ct 1, 42, .inr (.inl sv))), (rf_MO mo mw ma mf m0 m1 mu mv u0 u1 iz (0) mb mn mpt mbg mwr mwk mlf men), (rf_RW ct 0 mw 958 f)] ++ ws_3) := by rw [he_8] at hD; exact hD
    refine lv_if_eq (tgt := 10) hx hb dX11_settledIn_5 (by decide) (fun _ => ?_) (fun hc => absurd (by decide) hc)
    refine lv_aload_n hx hb dX11_settledIn_10 rfl (lv_at hl 0 rfl) ?_
    refine lv_iload_n hx hb dX11_settledIn_11 rfl (lv_at hl 1 rfl) ?_
    refine lv_iconst (v := 1) hx hb dX11_settledIn_12 (by decide) ?_
    obtain ⟨hP, hD⟩ := ty_ipPD (E1 := [(rf_RW ct 0 ma 958 fa), (mu, .inl (ct 1, 42, .inr (.inl su))), (mv, .inl (ct 1, 42, .inr (.inl sv)))]) (E2 := [(rf_MO mo mw ma mf m0 m1 mu mv u0 u1 iz (0) mb mn mpt mbg mwr mwk mlf men), (rf_RW ct 0 mw 958 f)]) hP hD rfl ty_mva
    refine ty_Ki hP hD hS hA (va_runV (As := [.int p1, .int 1]) (rest := []) ⟨hx, hb, hml, hown, hts⟩ (m_X11_isIn l D ct S ws_3 ph xx mo mw ma mf m0 m1 mu mv u0 u1 iz mb (0 : Int32) mn mpt mbg mwr mwk mlf men f G (-1) p1 (1 : Int32) _ hT hph hy1 hR hz_6.1) (cm_V 2 hts kc_X11_isIn ki_RX11 kl_RX11_350 kv_X11_isIn kx_X11_isIn kd_X11_isIn ⟨Nat.le_of_ble_eq_true rfl, Nat.le_of_ble_eq_true rfl⟩) (ty_preE (ci := 11) (q0 := 3) hP hK hD hS hA hX rfl rfl) rfl rfl hl.1 rfl (lv_room (Nat.le_of_ble_eq_true rfl)) dX11_settledIn_13 ⟨Nat.le_of_ble_eq_true rfl, Nat.le_of_ble_eq_true rfl⟩) (fun r_9 u H locs hw_10 hP hD hS => ?_)
    obtain ⟨ws_11, rfl⟩ : ∃ z, z = u := ⟨_, rfl⟩
    obtain ⟨hT, hp_12⟩ := hw_10
    have hp_12 : ((r_9 = 0 ∧ ¬ rf_of f p1 0 = (1 : Int32)) ∨ (r_9 = 1 ∧ rf_of f p1 0 = (1 : Int32))) := hp_12
    obtain ⟨hP, hD⟩ := ty_shPD (w2 := ([(rf_RW ct 0 ma 958 fa), (mu, .inl (ct 1, 42, .inr (.inl su))), (mv, .inl (ct 1, 42, .inr (.inl sv))), (rf_MO mo mw ma mf m0 m1 mu mv u0 u1 iz (0) mb mn mpt mbg mwr mwk mlf men), (rf_RW ct 0 mw 958 f)] ++ ws_11)) hP hD rfl
    rcases hp_12 with ⟨rfl, hz_13⟩ | ⟨rfl, hz_14⟩
    · refine lv_if_eq (tgt := 21) hx hb dX11_settledIn_16 (by decide) (fun _ => ?_) (fun hc => absurd (by decide) hc)
      refine lv_aload_n hx hb dX11_settledIn_21 rfl (lv_at hl 0 rfl) ?_
      obtain ⟨hP, hD⟩ := ty_opPD (E1 := []) (E2 := [(rf_MO mo mw ma mf m0 m1 mu mv u0 u1 iz (0) mb mn mpt mbg mwr mwk mlf men), (rf_RW ct 0 mw 958 f), (rf_RW ct 0 ma 958 fa), (mu, .inl (ct 1, 42, .inr (.inl su))), (mv, .inl (ct 1, 42, .inr (.inl sv)))]) (n := 5) [3, 4, 0, 1, 2] hP hD rfl rfl (by decide +kernel) ty_mva
      refine ty_Kv hP hD hS hA (va_runV (As := []) (rest := []) ⟨hx, hb, hml, hown, hts⟩ (m_X11_goesAside l D ct S ws_11 ph xx mo mw ma mf m0 m1 mu mv u0 u1 iz mb (0 : Int32) mn mpt mbg mwr mwk mlf men f G fa su sv _ hT hph hy1 hy11 hR) (cm_V 0 hts kc_X11_goesAside ki_RX11 kl_RX11_379 kv_X11_goesAside kx_X11_goesAside kd_X11_goesAside ⟨Nat.le_of_ble_eq_true rfl, Nat.le_of_ble_eq_true rfl⟩) (ty_preE (ci := 11) (q0 := 0) hP hK hD hS hA hX rfl rfl) rfl rfl hl.1 rfl (lv_room (Nat.le_of_ble_eq_true rfl)) dX11_settledIn_22 ⟨Nat.le_of_ble_eq_true rfl, Nat.le_of_ble_eq_true rfl⟩) (fun u H locs hw_16 hP hD hS => ?_)
      obtain ⟨ws_17, fa1_18, sv1_19⟩ := u
      obtain ⟨hT, hp_20⟩ := hw_16
      have hp_20 : (rf_R G (-1) fa1_18 ∧ rf_d (f 8) f fa1_18) ∧ q_eq 958 f fa1_18 ∧ q_cs su sv1_19 := hp_20
      obtain ⟨hP, hD⟩ := ty_shPD (w2 := ([(rf_MO mo mw ma mf m0 m1 mu mv u0 u1 iz (0) mb mn mpt mbg mwr mwk mlf (0)), (rf_RW ct 0 mw 958 f), (rf_RW ct 0 ma 958 fa1_18), (mu, .inl (ct 1, 42, .inr (.inl su))), (mv, .inl (ct 1, 42, .inr (.inl sv1_19)))] ++ ws_17)) hP hD rfl
      refine lv_iconst (v := 0) hx hb dX11_settledIn_25 (by decide) ?_
      refine lv_istore_n (lv' := [(2, .int 0), (0, .ref mo), (1, .int p1)]) hx hb dX11_settledIn_26 rfl hl (by decide) rfl (fun ls hl => ?_)
      refine ty_loop (I := fun μ H locs ls => ∃ (ws : va_W) (y_21 : Int32) (y_22 : Int32) (f_23 : Nat → Int32) (g_24 : Nat → Int64), μ = (2147483648 - y_21.toInt).toNat ∧ ty_V ct S ph ws ∧ va_P D vwCl ([(rf_MO mo mw ma mf m0 m1 mu mv u0 u1 iz (0) mb mn mpt mbg mwr mwk mlf y_22), (rf_RW ct 0 mw 958 f_23), (rf_RW ct 0 ma 958 fa1_18), (mu, .inl (ct 1, 42, .inr (.inl g_24))), (mv, .inl (ct 1, 42, .inr (.inl sv1_19)))] ++ ws) H ∧ va_D A ([(rf_MO mo mw ma mf m0 m1 mu mv u0 u1 iz (0) mb mn mpt mbg mwr mwk mlf y_22), (rf_RW ct 0 mw 958 f_23), (rf_RW ct 0 ma 958 fa1_18), (mu, .inl (ct 1, 42, .inr (.inl g_24))), (mv, .inl (ct 1, 42, .inr (.inl sv1_19)))] ++ ws) ∧ va_S A s.heap H locs ∧ lv_has ls 3 [(0, .ref mo), (1, .int p1), (2, .int y_21)] ∧ rf_R G (-1) f_23 ∧ (0 ≤ y_21.toInt ∧ y_21.toInt ≤ 10001) ∧ q_ch G p1 (fun _ g => ¬ rf_of g p1 8 = 0) y_21.toInt.toNat 0 f su y_22 f_23 g_24) ⟨_, ws_17, (0 : Int32), (0 : Int32), f, su, rfl, hT, hP, hD, hS, (lv_sub hl [1, 2, 0] rfl), hR, ⟨⟨by decide, by decide⟩, q_ch0⟩⟩ (fun μ H locs ls hI ih_27 => ?_)
      obtain ⟨ws, y_21, y_22, f_23, g_24, rfl, hT, hP, hD, hS, hl, hR_27, hex_27⟩ := hI
      refine lv_aload_n hx hb dX11_settledIn_27 rfl (lv_at hl 0 rfl) ?_
      refine lv_iload_n hx hb dX11_settledIn_28 rfl (lv_at hl 1 rfl) ?_
      refine lv_bipush (v := 8) hx hb dX11_settledIn_29 (by decide) ?_
      obtain ⟨hP, hD⟩ := ty_opPD (E1 := [(rf_RW ct 0 ma 958 fa1_18), (mu, .inl (ct 1, 42, .inr (.inl g_24))), (mv, .inl (ct 1, 42, .inr (.inl sv1_19)))]) (E2 := [(rf_MO mo mw ma mf m0 m1 mu mv u0 u1 iz (0) mb mn mpt mbg mwr mwk mlf y_22), (rf_RW ct 0 mw 958 f_23)]) (n := 5) [2, 3, 4, 0, 1] hP hD rfl rfl (by decide +kernel) ty_mva
      refine ty_Ki hP hD hS hA (va_runV (As := [.int p1, .int 8]) (rest := []) ⟨hx, hb, hml, hown, hts⟩ (m_of_8 l D ct S ws ph xx mo mw ma mf m0 m1 mu mv u0 u1 iz mb (0 : Int32) mn mpt mbg mwr mwk mlf y_22 f_23 G (-1) p1 _ hT hph hy1 hR_27 hz_6.1) (cm_V 2 hts kc_X11_of ki_RX11 kl_RX11_209 kv_X11_of kx_X11_of kd_X11_of ⟨Nat.le_of_ble_eq_true rfl, Nat.le_of_ble_eq_true rfl⟩) (ty_preE (ci := 11) (q0 := 3) hP hK hD hS hA hX rfl rfl) rfl rfl hl.1 rfl (lv_room (Nat.le_of_ble_eq_true rfl)) dX11_settledIn_31 ⟨Nat.le_of_ble_eq_true rfl, Nat.le_of_ble_eq_true rfl⟩) (fun r_25 u H locs hw_26 hP hD hS => ?_)
      obtain ⟨ws_27, rfl⟩ : ∃ z, z = u := ⟨_, rfl⟩
      obtain ⟨hT, rfl⟩ := hw_26
      obtain ⟨hP, hD⟩ := ty_shPD (w2 := ([(rf_RW ct 0 ma 958 fa1_18), (mu, .inl (ct 1, 42, .inr (.inl g_24))), (mv, .inl (ct 1, 42, .inr (.inl sv1_19))), (rf_MO mo mw ma mf m0 m1 mu mv u0 u1 iz (0) mb mn mpt mbg mwr mwk mlf y_22), (rf_RW ct 0 mw 958 f_23)] ++ ws_27)) hP hD rfl
      refine lv_if_eq (tgt := 55) hx hb dX11_settledIn_34 (by decide) (fun hc_28 => ?_) (fun hc_28 => ?_)
      · refine lv_aload_n hx hb dX11_settledIn_55 rfl (lv_at hl 0 rfl) ?_
        obtain ⟨hP, hD⟩ := ty_opPD (E1 := []) (E2 := [(rf_MO mo mw ma mf m0 m1 mu mv u0 u1 iz (0) mb mn mpt mbg mwr mwk mlf y_22), (rf_RW ct 0 mw 958 f_23), (rf_RW ct 0 ma 958 fa1_18), (mu, .inl (ct 1, 42, .inr (.inl g_24))), (mv, .inl (ct 1, 42, .inr (.inl sv1_19)))]) (n := 5) [3, 4, 0, 1, 2] hP hD rfl rfl (by decide +kernel) ty_mva
        refine ty_Kv hP hD hS hA (va_runV (As := []) (rest := []) ⟨hx, hb, hml, hown, hts⟩ (m_X11_comesBack l D ct S ws_27 ph xx mo mw ma mf m0 m1 mu mv u0 u1 iz mb (0 : Int32) mn mpt mbg mwr mwk mlf y_22 f_23 G fa1_18 g_24 sv1_19 _ hT hph hy1 hy11 hp_20.1.1) (cm_V 0 hts kc_X11_comesBack ki_RX11 kl_RX11_385 kv_X11_comesBack kx_X11_comesBack kd_X11_comesBack ⟨Nat.le_of_ble_eq_true rfl, Nat.le_of_ble_eq_true rfl⟩) (ty_preE (ci := 11) (q0 := 0) hP hK hD hS hA hX rfl rfl) rfl rfl hl.1 rfl (lv_room (Nat.le_of_ble_eq_true rfl)) dX11_settledIn_56 ⟨Nat.le_of_ble_eq_true rfl, Nat.le_of_ble_eq_true rfl⟩) (fun u H locs hw_30 hP hD hS => ?_)
        obtain ⟨ws_31, f1_32, su1_33⟩ := u
        obtain ⟨hT, hp_34⟩ := hw_30
        have hp_34 : rf_R G (-1) f1_32 ∧ (rf_d (fa1_18 8) fa1_18 f1_32 ∧ q_eq 958 fa1_18 f1_32 ∧ q_cs sv1_19 su1_33) := hp_34
        have hR_35 := hp_34.1
        obtain ⟨hP, hD⟩ := ty_shPD (w2 := ([(rf_MO mo mw ma mf m0 m1 mu mv u0 u1 iz (0) mb mn mpt mbg mwr mwk mlf y_22), (rf_RW ct 0 mw 958 f1_32), (rf_RW ct 0 ma 958 fa1_18), (mu, .inl (ct 1, 42, .inr (.inl su1_33))), (mv, .inl (ct 1, 42, .inr (.inl sv1_19)))] ++ ws_31)) hP hD rfl
        have hD_37 := rf_dg (rf_dr f) hp_20.1.2 hp_34.2.1
        refine lv_iload_n hx hb dX11_settledIn_59 rfl (lv_at hl 2 rfl) ?_
        refine lv_sipush (v := 10000) hx hb dX11_settledIn_60 (by decide) ?_
        refine lv_icmp_le (tgt := 70) hx hb dX11_settledIn_63 (by decide) (fun hc_38 => ?_) (fun hc_38 => ?_)
        · refine lv_iload_n hx hb dX11_settledIn_70 rfl (lv_at hl 2 rfl) ?_
          exact W.iret (v := y_21) hx hb hr (fun t ht hW => ⟨⟨y_21, (ws_31, y_22, (0 : Int32), f1_32, fa1_18, su1_33, sv1_19), rfl, ⟨hT, ⟨⟨th1_4, trivial, (Or.inl ⟨hz_6, (Or.inl ⟨hz_13, ⟨fa1_18, sv1_19, hp_20.2, ⟨y_21, y_22, f_23, g_24, hex_27, (Or.inl ⟨hc_28, ⟨f1_32, su1_33, hp_34.2.2, (Or.inl ⟨hc_38, ⟨rfl, rfl, rfl, rfl, rfl, rfl, rfl⟩⟩)⟩⟩)⟩⟩⟩)⟩)⟩, ⟨hD_37, hR_35⟩⟩⟩, by rw [ht]; exact hP, by rw [hAe]; exact hD⟩, hS.F ht⟩) hS.2.2 dX11_settledIn_71
        · refine lv_iconst (v := (-1)) hx hb dX11_settledIn_66 (by decide) ?_
          refine lv_goto (tgt := 71) hx hb dX11_settledIn_67 (by decide) ?_
          exact W.iret (v := (-1)) hx hb hr (fun t ht hW => ⟨⟨(-1), (ws_31, y_22, (0 : Int32), f1_32, fa1_18, su1_33, sv1_19), rfl, ⟨hT, ⟨⟨th1_4, trivial, (Or.inl ⟨hz_6, (Or.inl ⟨hz_13, ⟨fa1_18, sv1_19, hp_20.2, ⟨y_21, y_22, f_23, g_24, hex_27, (Or.inl ⟨hc_28, ⟨f1_32, su1_33, hp_34.2.2, (Or.inr ⟨hc_38, ⟨rfl, rfl, rfl, rfl, rfl, rfl, rfl⟩⟩)⟩⟩)⟩⟩⟩)⟩)⟩, ⟨hD_37, hR_35⟩⟩⟩, by rw [ht]; exact hP, by rw [hAe]; exact hD⟩, hS.F ht⟩) hS.2.2 dX11_settledIn_71
      · refine lv_iload_n hx hb dX11_settledIn_37 rfl (lv_at hl 2 rfl) ?_
        refine lv_sipush (v := 10000) hx hb dX11_settledIn_38 (by decide) ?_
        refine lv_icmp_gt (tgt := 55) hx hb dX11_settledIn_41 (by decide) (fun hc_39 => ?_) (fun hc_39 => ?_)
        · refine lv_aload_n hx hb dX11_settledIn_55 rfl (lv_at hl 0 rfl) ?_
          obtain ⟨hP, hD⟩ := ty_opPD (E1 := []) (E2 := [(rf_MO mo mw ma mf m0 m1 mu mv u0 u1 iz (0) mb mn mpt mbg mwr mwk mlf y_22), (rf_RW ct 0 mw 958 f_23), (rf_RW ct 0 ma 958 fa1_18), (mu, .inl (ct 1, 42, .inr (.inl g_24))), (mv, .inl (ct 1, 42, .inr (.inl sv1_19)))]) (n := 5) [3, 4, 0, 1, 2] hP hD rfl rfl (by decide +kernel) ty_mva
          refine ty_Kv hP hD hS hA (va_runV (As := []) (rest := []) ⟨hx, hb, hml, hown, hts⟩ (m_X11_comesBack l D ct S ws_27 ph xx mo mw ma mf m0 m1 mu mv u0 u1 iz mb (0 : Int32) mn mpt mbg mwr mwk mlf y_22 f_23 G fa1_18 g_24 sv1_19 _ hT hph hy1 hy11 hp_20.1.1) (cm_V 0 hts kc_X11_comesBack ki_RX11 kl_RX11_385 kv_X11_comesBack kx_X11_comesBack kd_X11_comesBack ⟨Nat.le_of_ble_eq_true rfl, Nat.le_of_ble_eq_true rfl⟩) (ty_preE (ci := 11) (q0 := 0) hP hK hD hS hA hX rfl rfl) rfl rfl hl.1 rfl (lv_room (Nat.le_of_ble_eq_true rfl)) dX11_settledIn_56 ⟨Nat.le_of_ble_eq_true rfl, Nat.le_of_ble_eq_true rfl⟩) (fun u H locs hw_41 hP hD hS => ?_)
          obtain ⟨ws_42, f1_43, su1_44⟩ := u
          obtain ⟨hT, hp_45⟩ := hw_41
          have hp_45 : rf_R G (-1) f1_43 ∧ (rf_d (fa1_18 8) fa1_18 f1_43 ∧ q_eq 958 fa1_18 f1_43 ∧ q_cs sv1_19 su1_44) := hp_45
          have hR_46 := hp_45.1
          obtain ⟨hP, hD⟩ := ty_shPD (w2 := ([(rf_MO mo mw ma mf m0 m1 mu mv u0 u1 iz (0) mb mn mpt mbg mwr mwk mlf y_22), (rf_RW ct 0 mw 958 f1_43), (rf_RW ct 0 ma 958 fa1_18), (mu, .inl (ct 1, 42, .inr (.inl su1_44))), (mv, .inl (ct 1, 42, .inr (.inl sv1_19)))] ++ ws_42)) hP hD rfl
          have hD_48 := rf_dg (rf_dr f) hp_20.1.2 hp_45.2.1
          refine lv_iload_n hx hb dX11_settledIn_59 rfl (lv_at hl 2 rfl) ?_
          refine lv_sipush (v := 10000) hx hb dX11_settledIn_60 (by decide) ?_
          refine lv_icmp_le (tgt := 70) hx hb dX11_settledIn_63 (by decide) (fun hc_49 => ?_) (fun hc_49 => ?_)
          · refine lv_iload_n hx hb dX11_settledIn_70 rfl (lv_at hl 2 rfl) ?_
            exact W.iret (v := y_21) hx hb hr (fun t ht hW => ⟨⟨y_21, (ws_42, y_22, (0 : Int32), f1_43, fa1_18, su1_44, sv1_19), rfl, ⟨hT, ⟨⟨th1_4, trivial, (Or.inl ⟨hz_6, (Or.inl ⟨hz_13, ⟨fa1_18, sv1_19, hp_20.2, ⟨y_21, y_22, f_23, g_24, hex_27, (Or.inr ⟨hc_28, ⟨hc_39, ⟨f1_43, su1_44, hp_45.2.2, (Or.inl ⟨hc_49, ⟨rfl, rfl, rfl, rfl, rfl, rfl, rfl⟩⟩)⟩⟩⟩)⟩⟩⟩)⟩)⟩, ⟨hD_48, hR_46⟩⟩⟩, by rw [ht]; exact hP, by rw [hAe]; exact hD⟩, hS.F ht⟩) hS.2.2 dX11_settledIn_71
          · refine lv_iconst (v := (-1)) hx hb dX11_settledIn_66 (by decide) ?_
            refine lv_goto (tgt := 71) hx hb dX11_settledIn_67 (by decide) ?_
            exact W.iret (v := (-1)) hx hb hr (fun t ht hW => ⟨⟨(-1), (ws_42, y_22, (0 : Int32), f1_43, fa1_18, su1_44, sv1_19), rfl, ⟨hT, ⟨⟨th1_4, trivial, (Or.inl ⟨hz_6, (Or.inl ⟨hz_13, ⟨fa1_18, sv1_19, hp_20.2, ⟨y_21, y_22, f_23, g_24, hex_27, (Or.inr ⟨hc_28, ⟨hc_39, ⟨f1_43, su1_44, hp_45.2.2, (Or.inr ⟨hc_49, ⟨rfl, rfl, rfl, rfl, rfl, rfl, rfl⟩⟩)⟩⟩⟩)⟩⟩⟩)⟩)⟩, ⟨hD_48, hR_46⟩⟩⟩, by rw [ht]; exact hP, by rw [hAe]; exact hD⟩, hS.F ht⟩) hS.2.2 dX11_settledIn_71
        · refine lv_aload_n hx hb dX11_settledIn_44 rfl (lv_at hl 0 rfl) ?_
          refine lv_iload_n hx hb dX11_settledIn_45 rfl (lv_at hl 1 rfl) ?_
          obtain ⟨hP, hD⟩ := ty_opPD (E1 := [(rf_RW ct 0 ma 958 fa1_18), (mv, .inl (ct 1, 42, .inr (.inl sv1_19)))]) (E2 := [(rf_MO mo mw ma mf m0 m1 mu mv u0 u1 iz (0) mb mn mpt mbg mwr mwk mlf y_22), (rf_RW ct 0 mw 958 f_23), (mu, .inl (ct 1, 42, .inr (.inl g_24)))]) (n := 5) [0, 2, 3, 4, 1] hP hD rfl rfl (by decide +kernel) ty_mva
          refine ty_Kv hP hD hS hA (va_runV (As := [.int p1]) (rest := []) ⟨hx, hb, hml, hown, hts⟩ (m_X11_alone l D ct S ws_27 ph xx mo mw ma mf m0 m1 mu mv u0 u1 iz mb (0 : Int32) mn mpt mbg mwr mwk mlf y_22 f_23 G g_24 p1 _ hT hph hy1 hy11 hR_27 hz_6.1) (cm_V 1 hts kc_X11_alone ki_RX11 kl_RX11_382 kv_X11_alone kx_X11_alone kd_X11_alone ⟨Nat.le_of_ble_eq_true rfl, Nat.le_of_ble_eq_true rfl⟩) (ty_preE (ci := 11) (q0 := 2) hP hK hD hS hA hX rfl rfl) rfl rfl hl.1 rfl (lv_room (Nat.le_of_ble_eq_true rfl)) dX11_settledIn_46 ⟨Nat.le_of_ble_eq_true rfl, Nat.le_of_ble_eq_true rfl⟩) (fun u H locs hw_51 hP hD hS => ?_)
          obtain ⟨ws_52, men1_53, f1_54, su1_55⟩ := u
          obtain ⟨hT, hp_56⟩ := hw_51
          have hp_56 : (q_X11_alone y_22 f_23 G g_24 p1 men1_53 f1_54 su1_55) ∧ rf_d ((f_23 8) + 1) f_23 f1_54 ∧ rf_R G (-1) f1_54 := hp_56
          obtain ⟨hq_57, hp_58⟩ := hp_56
          obtain ⟨hd_59, hq_60⟩ := hp_58
          have hR_61 := hq_60
          obtain ⟨hP, hD⟩ := ty_shPD (w2 := ([(rf_RW ct 0 ma 958 fa1_18), (mv, .inl (ct 1, 42, .inr (.inl sv1_19))), (rf_MO mo mw ma mf m0 m1 mu mv u0 u1 iz (0) mb mn mpt mbg mwr mwk mlf men1_53), (rf_RW ct 0 mw 958 f1_54), (mu, .inl (ct 1, 42, .inr (.inl su1_55)))] ++ ws_52)) hP hD rfl
          refine lv_iinc (v := (y_21 + Int32.ofInt 1)) (lv' := [(2, .int (y_21 + Int32.ofInt 1)), (0, .ref mo), (1, .int p1)]) hx hb dX11_settledIn_49 hl (k := 2) rfl rfl (by decide) rfl (fun ls hl => ?_)
          refine lv_goto (tgt := 27) hx hb dX11_settledIn_52 (by decide) ?_
          obtain ⟨hP, hD⟩ := ty_ordPD (E2 := [(rf_MO mo mw ma mf m0 m1 mu mv u0 u1 iz (0) mb mn mpt mbg mwr mwk mlf men1_53), (rf_RW ct 0 mw 958 f1_54), (rf_RW ct 0 ma 958 fa1_18), (mu, .inl (ct 1, 42, .inr (.inl su1_55))), (mv, .inl (ct 1, 42, .inr (.inl sv1_19)))]) (n := 5) [2, 3, 0, 4, 1] hP hD rfl rfl (by decide +kernel)
          exact ih_27 _ _ _ _ (ty_incle hc_39 (by decide)) ⟨ws_52, (y_21 + Int32.ofInt 1), men1_53, f1_54, su1_55, rfl, hT, hP, hD, hS, (lv_sub hl [1, 2, 0] rfl), hR_61, q_chk hex_27.1.1 hc_39 hex_27.2 hc_28 hq_57⟩
    · refine lv_if_eq (tgt := 21) hx hb dX11_settledIn_16 (by decide) (fun hc => absurd hc (by decide)) (fun _ => ?_)
      refine lv_iconst (v := (-1)) hx hb dX11_settledIn_19 (by decide) ?_
      obtain ⟨hP, hD⟩ := ty_ordPD (E2 := [(rf_MO mo mw ma mf m0 m1 mu mv u0 u1 iz (0) mb mn mpt mbg mwr mwk mlf men), (rf_RW ct 0 mw 958 f), (rf_RW ct 0 ma 958 fa), (mu, .inl (ct 1, 42, .inr (.inl su))), (mv, .inl (ct 1, 42, .inr (.inl sv)))]) (n := 5) [3, 4, 0, 1, 2] hP hD rfl rfl (by decide +kernel)
      exact W.iret (v := (-1)) hx hb hr (fun t ht hW => ⟨⟨(-1), (ws_11, men, (0 : Int32), f, fa, su, sv), rfl, ⟨hT, ⟨⟨th1_4, trivial, (Or.inl ⟨hz_6, (Or.inr ⟨hz_14, ⟨rfl, rfl, rfl, rfl, rfl, rfl, rfl⟩⟩)⟩)⟩, ⟨(rf_dr f), hR⟩⟩⟩, by rw [ht]; exact hP, by rw [hAe]; exact hD⟩, hS.F ht⟩) hS.2.2 dX11_settledIn_20
  · have he_63 := hz_7.2
    have hP : va_P D vwCl ([(rf_RW ct 0 ma 958 fa), (mu, .inl (ct 1, 42, .inr (.inl su))), (mv, .inl (ct 1, 42, .inr (.inl sv))), (rf_MO mo mw ma mf m0 m1 mu mv u0 u1 iz (1) mb mn mpt mbg mwr mwk mlf men), (rf_RW ct 0 mw 958 f)] ++ ws_3) H := by rw [he_63] at hP; exact hP
    have hD : va_D A ([(rf_RW ct 0 ma 958 fa), (mu, .inl (ct 1, 42, .inr (.inl su))), (mv, .inl (ct 1, 42, .inr (.inl sv))), (rf_MO mo mw ma mf m0 m1 mu mv u0 u1 iz (1) mb mn mpt mbg mwr mwk mlf men), (rf_RW ct 0 mw 958 f)] ++ ws_3) := by rw [he_63] at hD; exact hD
    refine lv_if_eq (tgt := 10) hx hb dX11_settledIn_5 (by decide) (fun hc => absurd hc (by decide)) (fun _ => ?_)
    refine lv_iconst (v := 0) hx hb dX11_settledIn_8 (by decide) ?_
    obtain ⟨hP, hD⟩ := ty_ordPD (E2 := [(rf_MO mo mw ma mf m0 m1 mu mv u0 u1 iz (1) mb mn mpt mbg mwr mwk mlf men), (rf_RW ct 0 mw 958 f), (rf_RW ct 0 ma 958 fa), (mu, .inl (ct 1, 42, .inr (.inl su))), (mv, .inl (ct 1, 42, .inr (.inl sv)))]) (n := 5) [3, 4, 0, 1, 2] hP hD rfl rfl (by decide +kernel)
    exact W.iret (v := 0) hx hb hr (fun t ht hW => ⟨⟨0, (ws_3, men, (1 : Int32), f, fa, su, sv), rfl, ⟨hT, ⟨⟨th1_4, trivial, (Or.inr ⟨hz_7, ⟨rfl, rfl, rfl, rfl, rfl, rfl, rfl⟩⟩)⟩, ⟨(rf_dr f), hR⟩⟩⟩, by rw [ht]; exact hP, by rw [hAe]; exact hD⟩, hS.F ht⟩) hS.2.2 dX11_settledIn_9
theorem rf_z39 {G : Nat → Int32} {c : Nat} : rf_k G c 39 0 := fun _ => ⟨by decide, by decide, fun _ => by decide⟩
def q_X11_durationOf (f : Nat → Int32) (G : Nat → Int32) (su : Nat → Int64) (p1 : Int32) (p2 : Int32) (r : Int32) (men1 : Int32) (f1 : Nat → Int32) (fa1 : Nat → Int32) (su1 : Nat → Int64) (sv1 : Nat → Int64) : Prop := (∃ (fa1_4 : Nat → Int32) (sv1_5 : Nat → Int64), (q_eq 958 f fa1_4 ∧ q_cs su sv1_5) ∧ (∃ (f1_10 : Nat → Int32), f1_10 = upd f (244 + 54 * p1.toInt.toNat + 39) (0 : Int32) ∧ (∃ (f1_20 : Nat → Int32) (su1_21 : Nat → Int64), (q_X11_startsOn f1_10 su p1 p2 f1_20 su1_21) ∧ (∃ (r_30 : Int32) (men1_33 : Int32) (f1_34 : Nat → Int32) (su1_35 : Nat → Int64), (q_X11_until (0 : Int32) f1_20 G su1_21 p1 (3 : Int32) r_30 men1_33 f1_34 su1_35) ∧ (∃ (f1_44 : Nat → Int32) (su1_45 : Nat → Int64), (q_eq 958 fa1_4 f1_44 ∧ q_cs sv1_5 su1_45) ∧ (r = r_30 ∧ men1 = men1_33 ∧ f1 = f1_44 ∧ fa1 = fa1_4 ∧ su1 = su1_45 ∧ sv1 = sv1_5))))))
set_option maxRecDepth 100000 in
set_option maxHeartbeats 4000000 in
theorem m_X11_durationOf (l : Launch) (D : va_G) (ct : Nat → ClassId) (S : ty_S) (ws : va_W) (ph : va_W → Prop) (xx : Nat → Nat → Nat → Prop) (mo : Nat) (mw : Nat) (ma : Nat) (mf : Nat) (m0 : Nat) (m1 : Nat) (mu : Nat) (mv : Nat) (u0 : Nat) (u1 : Nat) (iz : Nat) (mb : Nat) (th : Int32) (mn : Int32) (mpt : Int32) (mbg : Int32) (mwr : Int32) (mwk : Int32) (mlf : Int32) (men : Int32) (f : Nat → Int32) (G : Nat → Int32) (fa : Nat → Int32) (su : Nat → Int64) (sv : Nat → Int64) (p1 : Int32) (p2 : Int32) (sz : Nat) (hT : ty_V ct S ph ws) (hph : ty_C ph xx) (hy1 : ty_y1 xx) (hy11 : ty_y0 xx 11) (hR : rf_R G (-1) f) (hc : 0 ≤ p1.toInt ∧ p1.toInt < (G 9).toInt) (hpr : 0 ≤ p2.toInt ∧ p2.toInt < (G 10).toInt) : Met l yX11_durationOf (ws_ yX11_durationOf cX11_durationOf 4 (some .int)) ({ frames := 9, cells := 0, slots := 0, locals := 209 } : Room) (va_Pc [.ref mo, .int p1, .int p2] (cmP D ct sz ([(rf_MO mo mw ma mf m0 m1 mu mv u0 u1 iz th mb mn mpt mbg mwr mwk mlf men), (rf_RW ct 0 mw 958 f), (rf_RW ct 0 ma 958 fa), (mu, .inl (ct 1, 42, .inr (.inl su))), (mv, .inl (ct 1, 42, .inr (.inl sv)))] ++ ws))) (va_Qi (fun (r : Int32) (u : va_W × Int32 × (Nat → Int32) × (Nat → Int32) × (Nat → Int64) × (Nat → Int64)) => match u with | (u9, men1, f1, fa1, su1, sv1) => ty_V ct S ph u9 ∧ (q_X11_durationOf f G su p1 p2 r men1 f1 fa1 su1 sv1) ∧ rf_d (f 8) f f1 ∧ rf_R G (-1) f1) (cmB D ([(rf_MO mo mw ma mf m0 m1 mu mv u0 u1 iz th mb mn mpt mbg mwr mwk mlf men), (rf_RW ct 0 mw 958 f), (rf_RW ct 0 ma 958 fa), (mu, .inl (ct 1, 42, .inr (.inl su))), (mv, .inl (ct 1, 42, .inr (.inl sv)))] ++ ws) sz (fun (u : va_W × Int32 × (Nat → Int32) × (Nat → Int32) × (Nat → Int64) × (Nat → Int64)) => match u with | (u9, men1, f1, fa1, su1, sv1) => ([(rf_MO mo mw ma mf m0 m1 mu mv u0 u1 iz th mb mn mpt mbg mwr mwk mlf men1), (rf_RW ct 0 mw 958 f1), (rf_RW ct 0 ma 958 fa1), (mu, .inl (ct 1, 42, .inr (.inl su1))), (mv, .inl (ct 1, 42, .inr (.inl sv1)))] ++ u9))) (va_A ([(rf_MO mo mw ma mf m0 m1 mu mv u0 u1 iz th mb mn mpt mbg mwr mwk mlf men), (rf_RW ct 0 mw 958 f), (rf_RW ct 0 ma 958 fa), (mu, .inl (ct 1, 42, .inr (.inl su))), (mv, .inl (ct 1, 42, .inr (.inl sv)))] ++ ws) sz)) 0 0 (va_A ([(rf_MO mo mw ma mf m0 m1 mu mv u0 u1 iz th mb mn mpt mbg mwr mwk mlf men), (rf_RW ct 0 mw 958 f), (rf_RW ct 0 ma 958 fa), (mu, .inl (ct 1, 42, .inr (.inl su))), (mv, .inl (ct 1, 42, .inr (.inl sv)))] ++ ws) sz) := by
  refine Met.ofW (cc := cX11_durationOf) (maxL := 4) (ret := (some .int)) (by decide) rfl ?_
  intro p e s m args below meth c s₁ B hml hv
  obtain ⟨rfl, hsz, hP, hK, hD0, hX⟩ := hv
  have hx := B.exec
  have hb := B.bytes
  have hr := B.returns
  have hts := ws_all (atoms_spec (ws := ws_ yX11_durationOf cX11_durationOf 4 (some .int)) B.pre)
  have hown : s.vm.findClass RX11 = some m.cls := findClass_of_methodNamed B.named
  have hlocks := B.notSynchronized
  subst hsz
  have hD := hD0.self (sz := s.heap.size)
  generalize hAe : va_A ([(rf_MO mo mw ma mf m0 m1 mu mv u0 u1 iz th mb mn mpt mbg mwr mwk mlf men), (rf_RW ct 0 mw 958 f), (rf_RW ct 0 ma 958 fa), (mu, .inl (ct 1, 42, .inr (.inl su))), (mv, .inl (ct 1, 42, .inr (.inl sv)))] ++ ws) s.heap.size = A at hD hX ⊢
  have hA : ∀ q : Nat, s.heap.size ≤ q → A q := fun q h => by rw [← hAe]; exact Or.inr h
  have hS : va_S A s.heap s.heap [] := va_S.rf
  have hl := lv_entry ([.ref mo, .int p1, .int p2]) (n := 4) (Nat.le_of_ble_eq_true rfl)
  rw [lg_entry_eq]
  generalize (lg_sl ([.ref mo, .int p1, .int p2]) ++ List.replicate (4 - (lg_sl ([.ref mo, .int p1, .int p2])).length) Slot.unset).toArray = ls at hl ⊢
  have hl : lv_has ls 4 [(0, .ref mo), (1, .int p1), (2, .int p2)] := hl
  refine lv_aload_n hx hb dX11_durationOf_0 rfl (lv_at hl 0 rfl) ?_
  obtain ⟨hP, hD⟩ := ty_ipPD (E1 := []) (E2 := [(rf_MO mo mw ma mf m0 m1 mu mv u0 u1 iz th mb mn mpt mbg mwr mwk mlf men), (rf_RW ct 0 mw 958 f), (rf_RW ct 0 ma 958 fa), (mu, .inl (ct 1, 42, .inr (.inl su))), (mv, .inl (ct 1, 42, .inr (.inl sv)))]) hP hD rfl ty_mva
  refine ty_Kv hP hD hS hA (va_runV (As := []) (rest := []) ⟨hx, hb, hml, hown, hts⟩ (m_X11_goesAside l D ct S ws ph xx mo mw ma mf m0 m1 mu mv u0 u1 iz mb th mn mpt mbg mwr mwk mlf men f G fa su sv _ hT hph hy1 hy11 hR) (cm_V 0 hts kc_X11_goesAside ki_RX11 kl_RX11_379 kv_X11_goesAside kx_X11_goesAside kd_X11_goesAside ⟨Nat.le_of_ble_eq_true rfl, Nat.le_of_ble_eq_true rfl⟩) (ty_preE (ci := 11) (q0 := 0) hP hK hD hS hA hX rfl rfl) rfl rfl hl.1 rfl (lv_room (Nat.le_of_ble_eq_true rfl)) dX11_durationOf_1 ⟨Nat.le_of_ble_eq_true rfl, Nat.le_of_ble_eq_true rfl⟩) (fun u H locs hw_2 hP hD hS => ?_)
  obtain ⟨ws_3, fa1_4, sv1_5⟩ := u
  obtain ⟨hT, hp_6⟩ := hw_2
  have hp_6 : (rf_R G (-1) fa1_4 ∧ rf_d (f 8) f fa1_4) ∧ q_eq 958 f fa1_4 ∧ q_cs su sv1_5 := hp_6
  obtain ⟨hP, hD⟩ := ty_shPD (w2 := ([(rf_MO mo mw ma mf m0 m1 mu mv u0 u1 iz th mb mn mpt mbg mwr mwk mlf (0)), (rf_RW ct 0 mw 958 f), (rf_RW ct 0 ma 958 fa1_4), (mu, .inl (ct 1, 42, .inr (.inl su))), (mv, .inl (ct 1, 42, .inr (.inl sv1_5)))] ++ ws_3)) hP hD rfl
  refine lv_aload_n hx hb dX11_durationOf_4 rfl (lv_at hl 0 rfl) ?_
  refine lv_iload_n hx hb dX11_durationOf_5 rfl (lv_at hl 1 rfl) ?_
  refine lv_bipush (v := 39) hx hb dX11_durationOf_6 (by decide) ?_
  refine lv_iconst (v := 0) hx hb dX11_durationOf_8 (by decide) ?_
  obtain ⟨hP, hD⟩ := ty_opPD (E1 := [(rf_RW ct 0 ma 958 fa1_4), (mu, .inl (ct 1, 42, .inr (.inl su))), (mv, .inl (ct 1, 42, .inr (.inl sv1_5)))]) (E2 := [(rf_MO mo mw ma mf m0 m1 mu mv u0 u1 iz th mb mn mpt mbg mwr mwk mlf (0)), (rf_RW ct 0 mw 958 f)]) (n := 5) [2, 3, 4, 0, 1] hP hD rfl rfl (by decide +kernel) ty_mva
  refine ty_Kv hP hD hS hA (va_runV (As := [.int p1, .int 39, .int 0]) (rest := []) ⟨hx, hb, hml, hown, hts⟩ (m_put_39 l D ct S ws_3 ph xx mo mw ma mf m0 m1 mu mv u0 u1 iz mb th mn mpt mbg mwr mwk mlf (0 : Int32) f G (-1) p1 (0 : Int32) _ hT hph hy1 hR hc (rf_z39)) (cm_V 3 hts kc_X11_put ki_RX11 kl_RX11_234 kv_X11_put kx_X11_put kd_X11_put ⟨Nat.le_of_ble_eq_true rfl, Nat.le_of_ble_eq_true rfl⟩) (ty_preE (ci := 11) (q0 := 3) hP hK hD hS hA hX rfl rfl) rfl rfl hl.1 rfl (lv_room (Nat.le_of_ble_eq_true rfl)) dX11_durationOf_9 ⟨Nat.le_of_ble_eq_true rfl, Nat.le_of_ble_eq_true rfl⟩) (fun u H locs hw_8 hP hD hS => ?_)
  obtain ⟨ws_9, f1_10⟩ := u
  obtain ⟨hT, hp_11⟩ := hw_8
  have hp_11 : rf_d (f 8) f f1_10 ∧ rf_R G (-1) f1_10 ∧ rf_sm f f1_10 ∧ f1_10 = upd f (244 + 54 * p1.toInt.toNat + 39) (0 : Int32) := hp_11
  obtain ⟨hd_12, hq_13⟩ := hp_11
  have hD_14 := rf_dt (rf_dr f) hd_12
  have hR_15 := hq_13.1
  have hM_16 := rf_smt (rf_smr f) hq_13.2.1
  obtain ⟨hP, hD⟩ := ty_shPD (w2 := ([(rf_RW ct 0 ma 958 fa1_4), (mu, .inl (ct 1, 42, .inr (.inl su))), (mv, .inl (ct 1, 42, .inr (.inl sv1_5))), (rf_MO mo mw ma mf m0 m1 mu mv u0 u1 iz th mb mn mpt mbg mwr mwk mlf (0)), (rf_RW ct 0 mw 958 f1_10)] ++ ws_9)) hP hD rfl
  refine lv_aload_n hx hb dX11_durationOf_12 rfl (lv_at hl 0 rfl) ?_
  refine lv_iload_n hx hb dX11_durationOf_13 rfl (lv_at hl 1 rfl) ?_
  refine lv_iload_n hx hb dX11_durationOf_14 rfl (lv_at hl 2 rfl) ?_
  obtain ⟨hP, hD⟩ := ty_opPD (E1 := [(rf_RW ct 0 ma 958 fa1_4), (mv, .inl (ct 1, 42, .inr (.inl sv1_5)))]) (E2 := [(rf_MO mo mw ma mf m0 m1 mu mv u0 u1 iz th mb mn mpt mbg mwr mwk mlf (0)), (rf_RW ct 0 mw 958 f1_10), (mu, .inl (ct 1, 42, .inr (.inl su)))]) (n := 5) [0, 2, 3, 4, 1] hP hD rfl rfl (by decide +kernel) ty_mva
  refine ty_Kv hP hD hS hA (va_runV (As := [.int p1, .int p2]) (rest := []) ⟨hx, hb, hml, hown, hts⟩ (m_X11_startsOn l D ct S ws_9 ph xx mo mw ma mf m0 m1 mu mv u0 u1 iz mb th mn mpt mbg mwr mwk mlf (0 : Int32) f1_10 G (-1) su p1 p2 _ hT hph hy1 hy11 hR_15 hc (Or.inl rfl) hpr) (cm_V 2 hts kc_X11_startsOn ki_RX11 kl_RX11_288 kv_X11_startsOn kx_X11_startsOn kd_X11_startsOn ⟨Nat.le_of_ble_eq_true rfl, Nat.le_of_ble_eq_true rfl⟩) (ty_preE (ci := 11) (q0 := 2) hP hK hD hS hA hX rfl rfl) rfl rfl hl.1 rfl (lv_room (Nat.le_of_ble_eq_true rfl)) dX11_durationOf_15 ⟨Nat.le_of_ble_eq_true rfl, Nat.le_of_ble_eq_true rfl⟩) (fun u H locs hw_18 hP hD hS => ?_)
  obtain ⟨ws_19, f1_20, su1_21⟩ := u
  obtain ⟨hT, hp_22⟩ := hw_18
  have hp_22 : (q_X11_startsOn f1_10 su p1 p2 f1_20 su1_21) ∧ rf_d (f1_10 8) f1_10 f1_20 ∧ rf_R G (-1) f1_20 := hp_22
  obtain ⟨hq_23, hp_24⟩ := hp_22
  obtain ⟨hd_25, hq_26⟩ := hp_24
  have hD_27 := rf_dt hD_14 hd_25
  have hR_28 := hq_26
  obtain ⟨hP, hD⟩ := ty_shPD (w2 := ([(rf_RW ct 0 ma 958 fa1_4), (mv, .inl (ct 1, 42, .inr (.inl sv1_5))), (rf_MO mo mw ma mf m0 m1 mu mv u0 u1 iz th mb mn mpt mbg mwr mwk mlf (0)), (rf_RW ct 0 mw 958 f1_20), (mu, .inl (ct 1, 42, .inr (.inl su1_21)))] ++ ws_19)) hP hD rfl
  refine lv_aload_n hx hb dX11_durationOf_18 rfl (lv_at hl 0 rfl) ?_
  refine lv_iload_n hx hb dX11_durationOf_19 rfl (lv_at hl 1 rfl) ?_
  refine lv_iconst (v := 3) hx hb dX11_durationOf_20 (by decide) ?_
  obtain ⟨hP, hD⟩ := ty_ipPD (E1 := [(rf_RW ct 0 ma 958 fa1_4), (mv, .inl (ct 1, 42, .inr (.inl sv1_5)))]) (E2 := [(rf_MO mo mw ma mf m0 m1 mu mv u0 u1 iz th mb mn mpt mbg mwr mwk mlf (0)), (rf_RW ct 0 mw 958 f1_20), (mu, .inl (ct 1, 42, .inr (.inl su1_21)))]) hP hD rfl ty_mva
  refine ty_Ki hP hD hS hA (va_runV (As := [.int p1, .int 3]) (rest := []) ⟨hx, hb, hml, hown, hts⟩ (m_X11_until l D ct S ws_19 ph xx mo mw ma mf m0 m1 mu mv u0 u1 iz mb th mn mpt mbg mwr mwk mlf (0 : Int32) f1_20 G su1_21 p1 (3 : Int32) _ hT hph hy1 hy11 hR_28 hc) (cm_V 2 hts kc_X11_until ki_RX11 kl_RX11_388 kv_X11_until kx_X11_until kd_X11_until ⟨Nat.le_of_ble_eq_true rfl, Nat.le_of_ble_eq_true rfl⟩) (ty_preE (ci := 11) (q0 := 2) hP hK hD hS hA hX rfl rfl) rfl rfl hl.1 rfl (lv_room (Nat.le_of_ble_eq_true rfl)) dX11_durationOf_21 ⟨Nat.le_of_ble_eq_true rfl, Nat.le_of_ble_eq_true rfl⟩) (fun r_30 u H locs hw_31 hP hD hS => ?_)
  obtain ⟨ws_32, men1_33, f1_34, su1_35⟩ := u
  obtain ⟨hT, hp_36⟩ := hw_31
  have hp_36 : (q_X11_until (0 : Int32) f1_20 G su1_21 p1 (3 : Int32) r_30 men1_33 f1_34 su1_35) ∧ rf_R G (-1) f1_34 := hp_36
  obtain ⟨hq_37, hp_38⟩ := hp_36
  have hR_39 := hp_38
  obtain ⟨hP, hD⟩ := ty_shPD (w2 := ([(rf_RW ct 0 ma 958 fa1_4), (mv, .inl (ct 1, 42, .inr (.inl sv1_5))), (rf_MO mo mw ma mf m0 m1 mu mv u0 u1 iz th mb mn mpt mbg mwr mwk mlf men1_33), (rf_RW ct 0 mw 958 f1_34), (mu, .inl (ct 1, 42, .inr (.inl su1_35)))] ++ ws_32)) hP hD rfl
  refine lv_istore_n (lv' := [(3, .int r_30), (0, .ref mo), (1, .int p1), (2, .int p2)]) hx hb dX11_durationOf_24 rfl hl (by decide) rfl (fun ls hl => ?_)
  refine lv_aload_n hx hb dX11_durationOf_25 rfl (lv_at hl 1 rfl) ?_
  obtain ⟨hP, hD⟩ := ty_opPD (E1 := []) (E2 := [(rf_MO mo mw ma mf m0 m1 mu mv u0 u1 iz th mb mn mpt mbg mwr mwk mlf men1_33), (rf_RW ct 0 mw 958 f1_34), (rf_RW ct 0 ma 958 fa1_4), (mu, .inl (ct 1, 42, .inr (.inl su1_35))), (mv, .inl (ct 1, 42, .inr (.inl sv1_5)))]) (n := 5) [2, 3, 0, 4, 1] hP hD rfl rfl (by decide +kernel) ty_mva
  refine ty_Kv hP hD hS hA (va_runV (As := []) (rest := []) ⟨hx, hb, hml, hown, hts⟩ (m_X11_comesBack l D ct S ws_32 ph xx mo mw ma mf m0 m1 mu mv u0 u1 iz mb th mn mpt mbg mwr mwk mlf men1_33 f1_34 G fa1_4 su1_35 sv1_5 _ hT hph hy1 hy11 hp_6.1.1) (cm_V 0 hts kc_X11_comesBack ki_RX11 kl_RX11_385 kv_X11_comesBack kx_X11_comesBack kd_X11_comesBack ⟨Nat.le_of_ble_eq_true rfl, Nat.le_of_ble_eq_true rfl⟩) (ty_preE (ci := 11) (q0 := 0) hP hK hD hS hA hX rfl rfl) rfl rfl hl.1 rfl (lv_room (Nat.le_of_ble_eq_true rfl)) dX11_durationOf_26 ⟨Nat.le_of_ble_eq_true rfl, Nat.le_of_ble_eq_true rfl⟩) (fun u H locs hw_42 hP hD hS => ?_)
  obtain ⟨ws_43, f1_44, su1_45⟩ := u
  obtain ⟨hT, hp_46⟩ := hw_42
  have hp_46 : rf_R G (-1) f1_44 ∧ (rf_d (fa1_4 8) fa1_4 f1_44 ∧ q_eq 958 fa1_4 f1_44 ∧ q_cs sv1_5 su1_45) := hp_46
  have hR_47 := hp_46.1
  obtain ⟨hP, hD⟩ := ty_shPD (w2 := ([(rf_MO mo mw ma mf m0 m1 mu mv u0 u1 iz th mb mn mpt mbg mwr mwk mlf men1_33), (rf_RW ct 0 mw 958 f1_44), (rf_RW ct 0 ma 958 fa1_4), (mu, .inl (ct 1, 42, .inr (.inl su1_45))), (mv, .inl (ct 1, 42, .inr (.inl sv1_5)))] ++ ws_43)) hP hD rfl
  have hD_49 := rf_dg (rf_dr f) hp_6.1.2 hp_46.2.1
  refine lv_iload_n hx hb dX11_durationOf_29 rfl (lv_at hl 0 rfl) ?_
  exact W.iret (v := r_30) hx hb hr (fun t ht hW => ⟨⟨r_30, (ws_43, men1_33, f1_44, fa1_4, su1_45, sv1_5), rfl, ⟨hT, ⟨⟨fa1_4, sv1_5, hp_6.2, ⟨f1_10, hq_13.2.2, ⟨f1_20, su1_21, hq_23, ⟨r_30, men1_33, f1_34, su1_35, hq_37, ⟨f1_44, su1_45, hp_46.2.2, ⟨rfl, rfl, rfl, rfl, rfl, rfl⟩⟩⟩⟩⟩⟩, ⟨hD_49, hR_47⟩⟩⟩, by rw [ht]; exact hP, by rw [hAe]; exact hD⟩, hS.F ht⟩) hS.2.2 dX11_durationOf_30
def q_X11_duration (men : Int32) (f : Nat → Int32) (G : Nat → Int32) (fa : Nat → Int32) (su : Nat → Int64) (sv : Nat → Int64) (p1 : Int32) (p2 : Int32) (r : Int32) (men1 : Int32) (th1 : Int32) (f1 : Nat → Int32) (fa1 : Nat → Int32) (su1 : Nat → Int64) (sv1 : Nat → Int64) : Prop := (∃ (th1_4 : Int32), True ∧ (((((0 ≤ p1.toInt ∧ p1.toInt < (G 9).toInt) ∧ 0 ≤ p2.toInt ∧ p2.toInt < (G 10).toInt) ∧ th1_4 = 0) ∧ (∃ (r_9 : Int32) (men1_12 : Int32) (f1_13 : Nat → Int32) (fa1_14 : Nat → Int32) (su1_15 : Nat → Int64) (sv1_16 : Nat → Int64), (q_X11_durationOf f G su p1 p2 r_9 men1_12 f1_13 fa1_14 su1_15 sv1_16) ∧ (r = r_9 ∧ men1 = men1_12 ∧ th1 = 0 ∧ f1 = f1_13 ∧ fa1 = fa1_14 ∧ su1 = su1_15 ∧ sv1 = sv1_16))) ∨ ((¬ ((0 ≤ p1.toInt ∧ p1.toInt < (G 9).toInt) ∧ 0 ≤ p2.toInt ∧ p2.toInt < (G 10).toInt) ∧ th1_4 = 1) ∧ (r = 0 ∧ men1 = men ∧ th1 = 1 ∧ f1 = f ∧ fa1 = fa ∧ su1 = su ∧ sv1 = sv))))
set_option maxRecDepth 100000 in
set_option maxHeartbeats 4000000 in
theorem m_X11_duration (l : Launch) (D : va_G) (ct : Nat → ClassId) (S : ty_S) (ws : va_W) (ph : va_W → Prop) (xx : Nat → Nat → Nat → Prop) (mo : Nat) (mw : Nat) (ma : Nat) (mf : Nat) (m0 : Nat) (m1 : Nat) (mu : Nat) (mv : Nat) (u0 : Nat) (u1 : Nat) (iz : Nat) (mb : Nat) (th : Int32) (mn : Int32) (mpt : Int32) (mbg : Int32) (mwr : Int32) (mwk : Int32) (mlf : Int32) (men : Int32) (f : Nat → Int32) (G : Nat → Int32) (fa : Nat → Int32) (su : Nat → Int64) (sv : Nat → Int64) (p1 : Int32) (p2 : Int32) (sz : Nat) (hT : ty_V ct S ph ws) (hph : ty_C ph xx) (hy1 : ty_y1 xx) (hy11 : ty_y0 xx 11) (hR : rf_R G (-1) f) : Met l yX11_duration (ws_ yX11_duration cX11_duration 3 (some .int)) ({ frames := 10, cells := 0, slots := 0, locals := 232 } : Room) (va_Pc [.ref mo, .int p1, .int p2] (cmP D ct sz ([(rf_MO mo mw ma mf m0 m1 mu mv u0 u1 iz th mb mn mpt mbg mwr mwk mlf men), (rf_RW ct 0 mw 958 f), (rf_RW ct 0 ma 958 fa), (mu, .inl (ct 1, 42, .inr (.inl su))), (mv, .inl (ct 1, 42, .inr (.inl sv)))] ++ ws))) (va_Qi (fun (r : Int32) (u : va_W × Int32 × Int32 × (Nat → Int32) × (Nat → Int32) × (Nat → Int64) × (Nat → Int64)) => match u with | (u9, men1, th1, f1, fa1, su1, sv1) => ty_V ct S ph u9 ∧ (q_X11_duration men f G fa su sv p1 p2 r men1 th1 f1 fa1 su1 sv1) ∧ rf_d (f 8) f f1 ∧ rf_R G (-1) f1) (cmB D ([(rf_MO mo mw ma mf m0 m1 mu mv u0 u1 iz th mb mn mpt mbg mwr mwk mlf men), (rf_RW ct 0 mw 958 f), (rf_RW ct 0 ma 958 fa), (mu, .inl (ct 1, 42, .inr (.inl su))), (mv, .inl (ct 1, 42, .inr (.inl sv)))] ++ ws) sz (fun (u : va_W × Int32 × Int32 × (Nat → Int32) × (Nat → Int32) × (Nat → Int64) × (Nat → Int64)) => match u with | (u9, men1, th1, f1, fa1, su1, sv1) => ([(rf_MO mo mw ma mf m0 m1 mu mv u0 u1 iz th1 mb mn mpt mbg mwr mwk mlf men1), (rf_RW ct 0 mw 958 f1), (rf_RW ct 0 ma 958 fa1), (mu, .inl (ct 1, 42, .inr (.inl su1))), (mv, .inl (ct 1, 42, .inr (.inl sv1)))] ++ u9))) (va_A ([(rf_MO mo mw ma mf m0 m1 mu mv u0 u1 iz th mb mn mpt mbg mwr mwk mlf men), (rf_RW ct 0 mw 958 f), (rf_RW ct 0 ma 958 fa), (mu, .inl (ct 1, 42, .inr (.inl su))), (mv, .inl (ct 1, 42, .inr (.inl sv)))] ++ ws) sz)) 0 0 (va_A ([(rf_MO mo mw ma mf m0 m1 mu mv u0 u1 iz th mb mn mpt mbg mwr mwk mlf men), (rf_RW ct 0 mw 958 f), (rf_RW ct 0 ma 958 fa), (mu, .inl (ct 1, 42, .inr (.inl su))), (mv, .inl (ct 1, 42, .inr (.inl sv)))] ++ ws) sz) := by
  refine Met.ofW (cc := cX11_duration) (maxL := 3) (ret := (some .int)) (by decide) rfl ?_
  intro p e s m args below meth c s₁ B hml hv
  obtain ⟨rfl, hsz, hP, hK, hD0, hX⟩ := hv
  have hx := B.exec
  have hb := B.bytes
  have hr := B.returns
  have hts := ws_all (atoms_spec (ws := ws_ yX11_duration cX11_duration 3 (some .int)) B.pre)
  have hown : s.vm.findClass RX11 = some m.cls := findClass_of_methodNamed B.named
  have hlocks := B.notSynchronized
  subst hsz
  have hD := hD0.self (sz := s.heap.size)
  generalize hAe : va_A ([(rf_MO mo mw ma mf m0 m1 mu mv u0 u1 iz th mb mn mpt mbg mwr mwk mlf men), (rf_RW ct 0 mw 958 f), (rf_RW ct 0 ma 958 fa), (mu, .inl (ct 1, 42, .inr (.inl su))), (mv, .inl (ct 1, 42, .inr (.inl sv)))] ++ ws) s.heap.size = A at hD hX ⊢
  have hA : ∀ q : Nat, s.heap.size ≤ q → A q := fun q h => by rw [← hAe]; exact Or.inr h
  have hS : va_S A s.heap s.heap [] := va_S.rf
  have hl := lv_entry ([.ref mo, .int p1, .int p2]) (n := 3) (Nat.le_of_ble_eq_true rfl)
  rw [lg_entry_eq]
  generalize (lg_sl ([.ref mo, .int p1, .int p2]) ++ List.replicate (3 - (lg_sl ([.ref mo, .int p1, .int p2])).length) Slot.unset).toArray = ls at hl ⊢
  have hl : lv_has ls 3 [(0, .ref mo), (1, .int p1), (2, .int p2)] := hl
  refine lv_aload_n hx hb dX11_duration_0 rfl (lv_at hl 0 rfl) ?_
  refine lv_iload_n hx hb dX11_duration_1 rfl (lv_at hl 1 rfl) ?_
  refine lv_iload_n hx hb dX11_duration_2 rfl (lv_at hl 2 rfl) ?_
  obtain ⟨hP, hD⟩ := ty_opPD (E1 := [(rf_RW ct 0 ma 958 fa), (mu, .inl (ct 1, 42, .inr (.inl su))), (mv, .inl (ct 1, 42, .inr (.inl sv)))]) (E2 := [(rf_MO mo mw ma mf m0 m1 mu mv u0 u1 iz th mb mn mpt mbg mwr mwk mlf men), (rf_RW ct 0 mw 958 f)]) (n := 5) [2, 3, 4, 0, 1] hP hD rfl rfl (by decide +kernel) ty_mva
  refine ty_Ki hP hD hS hA (va_runV (As := [.int p1, .int p2]) (rest := []) ⟨hx, hb, hml, hown, hts⟩ (m_X11_noProgram l D ct S ws ph xx mo mw ma mf m0 m1 mu mv u0 u1 iz mb th mn mpt mbg mwr mwk mlf men f G (-1) p1 p2 _ hT hph hy1 hR) (cm_V 2 hts kc_X11_noProgram ki_RX11 kl_RX11_347 kv_X11_noProgram kx_X11_noProgram kd_X11_noProgram ⟨Nat.le_of_ble_eq_true rfl, Nat.le_of_ble_eq_true rfl⟩) (ty_preE (ci := 11) (q0 := 3) hP hK hD hS hA hX rfl rfl) rfl rfl hl.1 rfl (lv_room (Nat.le_of_ble_eq_true rfl)) dX11_duration_3 ⟨Nat.le_of_ble_eq_true rfl, Nat.le_of_ble_eq_true rfl⟩) (fun r_1 u H locs hw_2 hP hD hS => ?_)
  obtain ⟨ws_3, th1_4⟩ := u
  obtain ⟨hT, hp_5⟩ := hw_2
  have hp_5 : ((r_1 = 0 ∧ ((0 ≤ p1.toInt ∧ p1.toInt < (G 9).toInt) ∧ 0 ≤ p2.toInt ∧ p2.toInt < (G 10).toInt) ∧ th1_4 = 0) ∨ (r_1 = 1 ∧ ¬ ((0 ≤ p1.toInt ∧ p1.toInt < (G 9).toInt) ∧ 0 ≤ p2.toInt ∧ p2.toInt < (G 10).toInt) ∧ th1_4 = 1)) := hp_5
  obtain ⟨hP, hD⟩ := ty_shPD (w2 := ([(rf_RW ct 0 ma 958 fa), (mu, .inl (ct 1, 42, .inr (.inl su))), (mv, .inl (ct 1, 42, .inr (.inl sv))), (rf_MO mo mw ma mf m0 m1 mu mv u0 u1 iz th1_4 mb mn mpt mbg mwr mwk mlf men), (rf_RW ct 0 mw 958 f)] ++ ws_3)) hP hD rfl
  rcases hp_5 with ⟨rfl, hz_6⟩ | ⟨rfl, hz_7⟩
  · have he_8 := hz_6.2
    have hP : va_P D vwCl ([(rf_RW ct 0 ma 958 fa), (mu, .inl (ct 1, 42, .inr (.inl su))), (mv, .inl (ct 1, 42, .inr (.inl sv))), (rf_MO mo mw ma mf m0 m1 mu mv u0 u1 iz (0) mb mn mpt mbg mwr mwk mlf men), (rf_RW ct 0 mw 958 f)] ++ ws_3) H := by rw [he_8] at hP; exact hP
    have hD : va_D A ([(rf_RW ct 0 ma 958 fa), (mu, .inl (ct 1, 42, .inr (.inl su))), (mv, .inl (ct 1, 42, .inr (.inl sv))), (rf_MO mo mw ma mf m0 m1 mu mv u0 u1 iz (0) mb mn mpt mbg mwr mwk mlf men), (rf_RW ct 0 mw 958 f)] ++ ws_3) := by rw [he_8] at hD; exact hD
    refine lv_if_eq (tgt := 13) hx hb dX11_duration_6 (by decide) (fun _ => ?_) (fun hc => absurd (by decide) hc)
    refine lv_aload_n hx hb dX11_duration_13 rfl (lv_at hl 0 rfl) ?_
    refine lv_iload_n hx hb dX11_duration_14 rfl (lv_at hl 1 rfl) ?_
    refine lv_iload_n hx hb dX11_duration_15 rfl (lv_at hl 2 rfl) ?_
    obtain ⟨hP, hD⟩ := ty_opPD (E1 := []) (E2 := [(rf_MO mo mw ma mf m0 m1 mu mv u0 u1 iz (0) mb mn mpt mbg mwr mwk mlf men), (rf_RW ct 0 mw 958 f), (rf_RW ct 0 ma 958 fa), (mu, .inl (ct 1, 42, .inr (.inl su))), (mv, .inl (ct 1, 42, .inr (.inl sv)))]) (n := 5) [3, 4, 0, 1, 2] hP hD rfl rfl (by decide +kernel) ty_mva
    refine ty_Ki hP hD hS hA (va_runV (As := [.int p1, .int p2]) (rest := []) ⟨hx, hb, hml, hown, hts⟩ (m_X11_durationOf l D ct S ws_3 ph xx mo mw ma mf m0 m1 mu mv u0 u1 iz mb (0 : Int32) mn mpt mbg mwr mwk mlf men f G fa su sv p1 p2 _ hT hph hy1 hy11 hR hz_6.1.1 hz_6.1.2) (cm_V 2 hts kc_X11_durationOf ki_RX11 kl_RX11_396 kv_X11_durationOf kx_X11_durationOf kd_X11_durationOf ⟨Nat.le_of_ble_eq_true rfl, Nat.le_of_ble_eq_true rfl⟩) (ty_preE (ci := 11) (q0 := 0) hP hK hD hS hA hX rfl rfl) rfl rfl hl.1 rfl (lv_room (Nat.le_of_ble_eq_true rfl)) dX11_duration_16 ⟨Nat.le_of_ble_eq_true rfl, Nat.le_of_ble_eq_true rfl⟩) (fun r_9 u H locs hw_10 hP hD hS => ?_)
    obtain ⟨ws_11, men1_12, f1_13, fa1_14, su1_15, sv1_16⟩ := u
    obtain ⟨hT, hp_17⟩ := hw_10
    have hp_17 : (q_X11_durationOf f G su p1 p2 r_9 men1_12 f1_13 fa1_14 su1_15 sv1_16) ∧ rf_d (f 8) f f1_13 ∧ rf_R G (-1) f1_13 := hp_17
    obtain ⟨hq_18, hp_19⟩ := hp_17
    obtain ⟨hd_20, hq_21⟩ := hp_19
    have hD_22 := rf_dt (rf_dr f) hd_20
    have hR_23 := hq_21
    obtain ⟨hP, hD⟩ := ty_shPD (w2 := ([(rf_MO mo mw ma mf m0 m1 mu mv u0 u1 iz (0) mb mn mpt mbg mwr mwk mlf men1_12), (rf_RW ct 0 mw 958 f1_13), (rf_RW ct 0 ma 958 fa1_14), (mu, .inl (ct 1, 42, .inr (.inl su1_15))), (mv, .inl (ct 1, 42, .inr (.inl sv1_16)))] ++ ws_11)) hP hD rfl
    exact W.iret (v := r_9) hx hb hr (fun t ht hW => ⟨⟨r_9, (ws_11, men1_12, (0 : Int32), f1_13, fa1_14, su1_15, sv1_16), rfl, ⟨hT, ⟨⟨th1_4, trivial, (Or.inl ⟨hz_6, ⟨r_9, men1_12, f1_13, fa1_14, su1_15, sv1_16, hq_18, ⟨rfl, rfl, rfl, rfl, rfl, rfl, rfl⟩⟩⟩)⟩, ⟨hD_22, hR_23⟩⟩⟩, by rw [ht]; exact hP, by rw [hAe]; exact hD⟩, hS.F ht⟩) hS.2.2 dX11_duration_19
  · have he_25 := hz_7.2
    have hP : va_P D vwCl ([(rf_RW ct 0 ma 958 fa), (mu, .inl (ct 1, 42, .inr (.inl su))), (mv, .inl (ct 1, 42, .inr (.inl sv))), (rf_MO mo mw ma mf m0 m1 mu mv u0 u1 iz (1) mb mn mpt mbg mwr mwk mlf men), (rf_RW ct 0 mw 958 f)] ++ ws_3) H := by rw [he_25] at hP; exact hP
    have hD : va_D A ([(rf_RW ct 0 ma 958 fa), (mu, .inl (ct 1, 42, .inr (.inl su))), (mv, .inl (ct 1, 42, .inr (.inl sv))), (rf_MO mo mw ma mf m0 m1 mu mv u0 u1 iz (1) mb mn mpt mbg mwr mwk mlf men), (rf_RW ct 0 mw 958 f)] ++ ws_3) := by rw [he_25] at hD; exact hD
    refine lv_if_eq (tgt := 13) hx hb dX11_duration_6 (by decide) (fun hc => absurd hc (by decide)) (fun _ => ?_)
    refine lv_iconst (v := 0) hx hb dX11_duration_9 (by decide) ?_
    refine lv_goto (tgt := 19) hx hb dX11_duration_10 (by decide) ?_
    obtain ⟨hP, hD⟩ := ty_ordPD (E2 := [(rf_MO mo mw ma mf m0 m1 mu mv u0 u1 iz (1) mb mn mpt mbg mwr mwk mlf men), (rf_RW ct 0 mw 958 f), (rf_RW ct 0 ma 958 fa), (mu, .inl (ct 1, 42, .inr (.inl su))), (mv, .inl (ct 1, 42, .inr (.inl sv)))]) (n := 5) [3, 4, 0, 1, 2] hP hD rfl rfl (by decide +kernel)
    exact W.iret (v := 0) hx hb hr (fun t ht hW => ⟨⟨0, (ws_3, men, (1 : Int32), f, fa, su, sv), rfl, ⟨hT, ⟨⟨th1_4, trivial, (Or.inr ⟨hz_7, ⟨rfl, rfl, rfl, rfl, rfl, rfl, rfl⟩⟩)⟩, ⟨(rf_dr f), hR⟩⟩⟩, by rw [ht]; exact hP, by rw [hAe]; exact hD⟩, hS.F ht⟩) hS.2.2 dX11_duration_19
/-- the shortest program of the first ones -/
theorem q_eqt {n : Nat} {a b c : Nat → Int32} (h : q_eq n a b) (k : q_eq n b c) : q_eq n a c := fun j hj => (k j hj).trans (h j hj)
theorem q_cst {a b c : Nat → Int64} (h : q_cs a b) (k : q_cs b c) : q_cs a c := fun j hj => (k j hj).trans (h j hj)
theorem q_dre {f g f1 fa1 G : Nat → Int32} {su t su1 sv1 : Nat → Int64} {c p r e : Int32} (I : q_eq 958 f g ∧ q_cs su t) (q : q_X11_durationOf g G t c p r e f1 fa1 su1 sv1) : q_eq 958 f f1 ∧ q_cs su su1 := by
  obtain ⟨a, v, ⟨h1, h2⟩, _, _, _, _, _, _, _, _, _, _, f9, s9, ⟨h3, h4⟩, _, _, e1, e2, e3, e4⟩ := q
  subst e1 e3
  exact ⟨q_eqt I.1 (q_eqt h1 h3), q_cst I.2 (q_cst h2 h4)⟩
def q_dr (f G : Nat → Int32) (su : Nat → Int64) (c p r : Int32) : Prop := ∃ (g : Nat → Int32) (t : Nat → Int64) (e : Int32) (f1 fa1 : Nat → Int32) (su1 sv1 : Nat → Int64), (q_eq 958 f g ∧ q_cs su t) ∧ q_X11_durationOf g G t c p r e f1 fa1 su1 sv1
def q_sho (f G : Nat → Int32) (su : Nat → Int64) (c : Int32) : Nat → Int32 → Int32 → Prop
  | 0, b, l => b = -1 ∧ l = 0
  | n + 1, b, l => ∃ b2 l2 r : Int32, q_sho f G su c n b2 l2 ∧ q_dr f G su c (Int32.ofNat n) r ∧ ((r = -1 ∧ b = b2 ∧ l = l2) ∨ (¬ r = -1 ∧ (((b2 = -1 ∨ r < l2) ∧ b = Int32.ofNat n ∧ l = r) ∨ (¬ b2 = -1 ∧ ¬ r < l2 ∧ b = b2 ∧ l = l2))))
theorem q_shos {f g f1 fa1 G : Nat → Int32} {su t su1 sv1 : Nat → Int64} {c y p r e b l b1 l1 : Int32} (h0 : 0 ≤ y.toInt) (h : ¬ p ≤ y) (I : q_eq 958 f g ∧ q_cs su t) (k : q_sho f G su c y.toInt.toNat b l) (q : q_X11_durationOf g G t c y r e f1 fa1 su1 sv1) (d : (r = -1 ∧ b1 = b ∧ l1 = l) ∨ (¬ r = -1 ∧ (((b = -1 ∨ r < l) ∧ b1 = y ∧ l1 = r) ∨ (¬ b = -1 ∧ ¬ r < l ∧ b1 = b ∧ l1 = l)))) : q_sho f G su c (y + Int32.ofInt 1).toInt.toNat b1 l1 := by
  rw [q_y1 h0 h]
  refine ⟨b, l, r, k, ?_, ?_⟩
  · rw [q_ofn h0]
    exact ⟨g, t, e, f1, fa1, su1, sv1, I, q⟩
  · rw [q_ofn h0]
    exact d
def q_X11_shortest (men : Int32) (f : Nat → Int32) (G : Nat → Int32) (fa : Nat → Int32) (su : Nat → Int64) (sv : Nat → Int64) (p1 : Int32) (r : Int32) (men1 : Int32) (th1 : Int32) (f1 : Nat → Int32) (fa1 : Nat → Int32) (su1 : Nat → Int64) (sv1 : Nat → Int64) : Prop := (∃ (th1_4 : Int32), True ∧ ((((0 ≤ p1.toInt ∧ p1.toInt < (G 9).toInt) ∧ th1_4 = 0) ∧ (∃ (y_9 : Int32) (y_10 : Int32) (y_11 : Int32) (y_12 : Int32) (f_13 : Nat → Int32) (g_14 : Nat → Int32) (g_15 : Nat → Int64) (g_16 : Nat → Int64), (((0 ≤ y_11.toInt ∧ y_11.toInt ≤ (G 10).toInt) ∧ q_eq 958 f f_13 ∧ q_cs su g_16) ∧ q_sho f G su p1 y_11.toInt.toNat y_9 y_10) ∧ ((f_13 10) ≤ y_11 ∧ (r = y_9 ∧ men1 = y_12 ∧ th1 = 0 ∧ f1 = f_13 ∧ fa1 = g_14 ∧ su1 = g_16 ∧ sv1 = g_15)))) ∨ ((¬ (0 ≤ p1.toInt ∧ p1.toInt < (G 9).toInt) ∧ th1_4 = 1) ∧ (r = 0 ∧ men1 = men ∧ th1 = 1 ∧ f1 = f ∧ fa1 = fa ∧ su1 = su ∧ sv1 = sv))))
set_option maxRecDepth 100000 in
set_option maxHeartbeats 4000000 in
theorem m_X11_shortest (l : Launch) (D : va_G) (ct : Nat → ClassId) (S : ty_S) (ws : va_W) (ph : va_W → Prop) (xx : Nat → Nat → Nat → Prop) (mo : Nat) (mw : Nat) (ma : Nat) (mf : Nat) (m0 : Nat) (m1 : Nat) (mu : Nat) (mv : Nat) (u0 : Nat) (u1 : Nat) (iz : Nat) (mb : Nat) (th : Int32) (mn : Int32) (mpt : Int32) (mbg : Int32) (mwr : Int32) (mwk : Int32) (mlf : Int32) (men : Int32) (f : Nat → Int32) (G : Nat → Int32) (fa : Nat → Int32) (su : Nat → Int64) (sv : Nat → Int64) (p1 : Int32) (sz : Nat) (hT : ty_V ct S ph ws) (hph : ty_C ph xx) (hy1 : ty_y1 xx) (hy11 : ty_y0 xx 11) (hR : rf_R G (-1) f) : Met l yX11_shortest (ws_ yX11_shortest cX11_shortest 6 (some .int)) ({ frames := 10, cells := 0, slots := 0, locals := 232 } : Room) (va_Pc [.ref mo, .int p1] (cmP D ct sz ([(rf_MO mo mw ma mf m0 m1 mu mv u0 u1 iz th mb mn mpt mbg mwr mwk mlf men), (rf_RW ct 0 mw 958 f), (rf_RW ct 0 ma 958 fa), (mu, .inl (ct 1, 42, .inr (.inl su))), (mv, .inl (ct 1, 42, .inr (.inl sv)))] ++ ws))) (va_Qi (fun (r : Int32) (u : va_W × Int32 × Int32 × (Nat → Int32) × (Nat → Int32) × (Nat → Int64) × (Nat → Int64)) => match u with | (u9, men1, th1, f1, fa1, su1, sv1) => ty_V ct S ph u9 ∧ (q_X11_shortest men f G fa su sv p1 r men1 th1 f1 fa1 su1 sv1) ∧ rf_d (f 8) f f1 ∧ rf_R G (-1) f1) (cmB D ([(rf_MO mo mw ma mf m0 m1 mu mv u0 u1 iz th mb mn mpt mbg mwr mwk mlf men), (rf_RW ct 0 mw 958 f), (rf_RW ct 0 ma 958 fa), (mu, .inl (ct 1, 42, .inr (.inl su))), (mv, .inl (ct 1, 42, .inr (.inl sv)))] ++ ws) sz (fun (u : va_W × Int32 × Int32 × (Nat → Int32) × (Nat → Int32) × (Nat → Int64) × (Nat → Int64)) => match u with | (u9, men1, th1, f1, fa1, su1, sv1) => ([(rf_MO mo mw ma mf m0 m1 mu mv u0 u1 iz th1 mb mn mpt mbg mwr mwk mlf men1), (rf_RW ct 0 mw 958 f1), (rf_RW ct 0 ma 958 fa1), (mu, .inl (ct 1, 42, .inr (.inl su1))), (mv, .inl (ct 1, 42, .inr (.inl sv1)))] ++ u9))) (va_A ([(rf_MO mo mw ma mf m0 m1 mu mv u0 u1 iz th mb mn mpt mbg mwr mwk mlf men), (rf_RW ct 0 mw 958 f), (rf_RW ct 0 ma 958 fa), (mu, .inl (ct 1, 42, .inr (.inl su))), (mv, .inl (ct 1, 42, .inr (.inl sv)))] ++ ws) sz)) 0 0 (va_A ([(rf_MO mo mw ma mf m0 m1 mu mv u0 u1 iz th mb mn mpt mbg mwr mwk mlf men), (rf_RW ct 0 mw 958 f), (rf_RW ct 0 ma 958 fa), (mu, .inl (ct 1, 42, .inr (.inl su))), (mv, .inl (ct 1, 42, .inr (.inl sv)))] ++ ws) sz) := by
  refine Met.ofW (cc := cX11_shortest) (maxL := 6) (ret := (some .int)) (by decide) rfl ?_
  intro p e s m args below meth c s₁ B hml hv
  obtain ⟨rfl, hsz, hP, hK, hD0, hX⟩ := hv
  have hx := B.exec
  have hb := B.bytes
  have hr := B.returns
  have hts := ws_all (atoms_spec (ws := ws_ yX11_shortest cX11_shortest 6 (some .int)) B.pre)
  have hown : s.vm.findClass RX11 = some m.cls := findClass_of_methodNamed B.named
  have hlocks := B.notSynchronized
  subst hsz
  have hD := hD0.self (sz := s.heap.size)
  generalize hAe : va_A ([(rf_MO mo mw ma mf m0 m1 mu mv u0 u1 iz th mb mn mpt mbg mwr mwk mlf men), (rf_RW ct 0 mw 958 f), (rf_RW ct 0 ma 958 fa), (mu, .inl (ct 1, 42, .inr (.inl su))), (mv, .inl (ct 1, 42, .inr (.inl sv)))] ++ ws) s.heap.size = A at hD hX ⊢
  have hA : ∀ q : Nat, s.heap.size ≤ q → A q := fun q h => by rw [← hAe]; exact Or.inr h
  have hS : va_S A s.heap s.heap [] := va_S.rf
  have hl := lv_entry ([.ref mo, .int p1]) (n := 6) (Nat.le_of_ble_eq_true rfl)
  rw [lg_entry_eq]
  generalize (lg_sl ([.ref mo, .int p1]) ++ List.replicate (6 - (lg_sl ([.ref mo, .int p1])).length) Slot.unset).toArray = ls at hl ⊢
  have hl : lv_has ls 6 [(0, .ref mo), (1, .int p1)] := hl
  refine lv_aload_n hx hb dX11_shortest_0 rfl (lv_at hl 0 rfl) ?_
  refine lv_iload_n hx hb dX11_shortest_1 rfl (lv_at hl 1 rfl) ?_
  obtain ⟨hP, hD⟩ := ty_opPD (E1 := [(rf_RW ct 0 ma 958 fa), (mu, .inl (ct 1, 42, .inr (.inl su))), (mv, .inl (ct 1, 42, .inr (.inl sv)))]) (E2 := [(rf_MO mo mw ma mf m0 m1 mu mv u0 u1 iz th mb mn mpt mbg mwr mwk mlf men), (rf_RW ct 0 mw 958 f)]) (n := 5) [2, 3, 4, 0, 1] hP hD rfl rfl (by decide +kernel) ty_mva
  refine ty_Ki hP hD hS hA (va_runV (As := [.int p1]) (rest := []) ⟨hx, hb, hml, hown, hts⟩ (m_X11_noChannel l D ct S ws ph xx mo mw ma mf m0 m1 mu mv u0 u1 iz mb th mn mpt mbg mwr mwk mlf men f G (-1) p1 _ hT hph hy1 hR) (cm_V 1 hts kc_X11_noChannel ki_RX11 kl_RX11_344 kv_X11_noChannel kx_X11_noChannel kd_X11_noChannel ⟨Nat.le_of_ble_eq_true rfl, Nat.le_of_ble_eq_true rfl⟩) (ty_preE (ci := 11) (q0 := 3) hP hK hD hS hA hX rfl rfl) rfl rfl hl.1 rfl (lv_room (Nat.le_of_ble_eq_true rfl)) dX11_shortest_2 ⟨Nat.le_of_ble_eq_true rfl, Nat.le_of_ble_eq_true rfl⟩) (fun r_1 u H locs hw_2 hP hD hS => ?_)
  obtain ⟨ws_3, th1_4⟩ := u
  obtain ⟨hT, hp_5⟩ := hw_2
  have hp_5 : ((r_1 = 0 ∧ (0 ≤ p1.toInt ∧ p1.toInt < (G 9).toInt) ∧ th1_4 = 0) ∨ (r_1 = 1 ∧ ¬ (0 ≤ p1.toInt ∧ p1.toInt < (G 9).toInt) ∧ th1_4 = 1)) := hp_5
  obtain ⟨hP, hD⟩ := ty_shPD (w2 := ([(rf_RW ct 0 ma 958 fa), (mu, .inl (ct 1, 42, .inr (.inl su))), (mv, .inl (ct 1, 42, .inr (.inl sv))), (rf_MO mo mw ma mf m0 m1 mu mv u0 u1 iz th1_4 mb mn mpt mbg mwr mwk mlf men), (rf_RW ct 0 mw 958 f)] ++ ws_3)) hP hD rfl
  rcases hp_5 with ⟨rfl, hz_6⟩ | ⟨rfl, hz_7⟩
  · have he_8 := hz_6.2
    have hP : va_P D vwCl ([(rf_RW ct 0 ma 958 fa), (mu, .inl (ct 1, 42, .inr (.inl su))), (mv, .inl (ct 1, 42, .inr (.inl sv))), (rf_MO mo mw ma mf m0 m1 mu mv u0 u1 iz (0) mb mn mpt mbg mwr mwk mlf men), (rf_RW ct 0 mw 958 f)] ++ ws_3) H := by rw [he_8] at hP; exact hP
    have hD : va_D A ([(rf_RW ct 0 ma 958 fa), (mu, .inl (ct 1, 42, .inr (.inl su))), (mv, .inl (ct 1, 42, .inr (.inl sv))), (rf_MO mo mw ma mf m0 m1 mu mv u0 u1 iz (0) mb mn mpt mbg mwr mwk mlf men), (rf_RW ct 0 mw 958 f)] ++ ws_3) := by rw [he_8] at hD; exact hD
    refine lv_if_eq (tgt := 10) hx hb dX11_shortest_5 (by decide) (fun _ => ?_) (fun hc => absurd (by decide) hc)
    refine lv_iconst (v := (-1)) hx hb dX11_shortest_10 (by decide) ?_
    refine lv_istore_n (lv' := [(2, .int (-1)), (0, .ref mo), (1, .int p1)]) hx hb dX11_shortest_11 rfl hl (by decide) rfl (fun ls hl => ?_)
    refine lv_iconst (v := 0) hx hb dX11_shortest_12 (by decide) ?_
    refine lv_istore_n (lv' := [(3, .int 0), (2, .int (-1)), (0, .ref mo), (1, .int p1)]) hx hb dX11_shortest_13 rfl hl (by decide) rfl (fun ls hl => ?_)
    refine lv_iconst (v := 0) hx hb dX11_shortest_14 (by decide) ?_
    refine lv_istore (lv' := [(4, .int 0), (3, .int 0), (2, .int (-1)), (0, .ref mo), (1, .int p1)]) hx hb dX11_shortest_15 hl (by decide) rfl (fun ls hl => ?_)
    refine ty_loop (I := fun μ H locs ls => ∃ (ws : va_W) (y_9 : Int32) (y_10 : Int32) (y_11 : Int32) (y_12 : Int32) (f_13 : Nat → Int32) (g_14 : Nat → Int32) (g_15 : Nat → Int64) (g_16 : Nat → Int64), μ = (2147483648 - y_11.toInt).toNat ∧ ty_V ct S ph ws ∧ va_P D vwCl ([(rf_RW ct 0 ma 958 g_14), (mu, .inl (ct 1, 42, .inr (.inl g_16))), (mv, .inl (ct 1, 42, .inr (.inl g_15))), (rf_MO mo mw ma mf m0 m1 mu mv u0 u1 iz (0) mb mn mpt mbg mwr mwk mlf y_12), (rf_RW ct 0 mw 958 f_13)] ++ ws) H ∧ va_D A ([(rf_RW ct 0 ma 958 g_14), (mu, .inl (ct 1, 42, .inr (.inl g_16))), (mv, .inl (ct 1, 42, .inr (.inl g_15))), (rf_MO mo mw ma mf m0 m1 mu mv u0 u1 iz (0) mb mn mpt mbg mwr mwk mlf y_12), (rf_RW ct 0 mw 958 f_13)] ++ ws) ∧ va_S A s.heap H locs ∧ lv_has ls 6 [(0, .ref mo), (1, .int p1), (2, .int y_9), (3, .int y_10), (4, .int y_11)] ∧ rf_R G (-1) f_13 ∧ rf_d (f 8) f f_13 ∧ ((0 ≤ y_11.toInt ∧ y_11.toInt ≤ (G 10).toInt) ∧ q_eq 958 f f_13 ∧ q_cs su g_16) ∧ q_sho f G su p1 y_11.toInt.toNat y_9 y_10) ⟨_, ws_3, ((-1) : Int32), (0 : Int32), (0 : Int32), men, f, fa, sv, su, rfl, hT, hP, hD, hS, (lv_sub hl [3, 4, 2, 1, 0] rfl), hR, (rf_dr f), ⟨⟨⟨by decide, (by have := hR.1.2.2.2.1.1; have z : (0 : Int32).toInt = 0 := (by decide); omega)⟩, fun _ _ => rfl, fun _ _ => rfl⟩, rfl, rfl⟩⟩ (fun μ H locs ls hI ih_17 => ?_)
    obtain ⟨ws, y_9, y_10, y_11, y_12, f_13, g_14, g_15, g_16, rfl, hT, hP, hD, hS, hl, hR_17, hD_17, hex_17⟩ := hI
    refine lv_iload hx hb dX11_shortest_17 (lv_at hl 4 rfl) ?_
    refine lv_aload_n hx hb dX11_shortest_19 rfl (lv_at hl 0 rfl) ?_
    refine va_get (v := .ref mw) (D := D) (ci := 11) (C := RX11) (T := TX11) (N := 19) hx hb hts in_X11 hown hK hP 3 rfl rfl 0 (by decide) (hts _ kl_RX11_9) (fun _ h9 => h9) rfl dX11_shortest_20 ?_
    refine lv_bipush (v := 10) hx hb dX11_shortest_23 (by decide) ?_
    refine va_iald hx hb hK hP 4 0 rfl rfl (cm_vin (by decide)) dX11_shortest_25 ?_
    refine cm_cst (y := (f_13 10)) (by first | rfl | decide +kernel) ?_
    refine lv_icmp_ge (tgt := 70) hx hb dX11_shortest_26 (by decide) (fun hc_17 => ?_) (fun hc_17 => ?_)
    · refine lv_iload_n hx hb dX11_shortest_70 rfl (lv_at hl 2 rfl) ?_
      obtain ⟨hP, hD⟩ := ty_ordPD (E2 := [(rf_MO mo mw ma mf m0 m1 mu mv u0 u1 iz (0) mb mn mpt mbg mwr mwk mlf y_12), (rf_RW ct 0 mw 958 f_13), (rf_RW ct 0 ma 958 g_14), (mu, .inl (ct 1, 42, .inr (.inl g_16))), (mv, .inl (ct 1, 42, .inr (.inl g_15)))]) (n := 5) [3, 4, 0, 1, 2] hP hD rfl rfl (by decide +kernel)
      exact W.iret (v := y_9) hx hb hr (fun t ht hW => ⟨⟨y_9, (ws, y_12, (0 : Int32), f_13, g_14, g_16, g_15), rfl, ⟨hT, ⟨⟨th1_4, trivial, (Or.inl ⟨hz_6, ⟨y_9, y_10, y_11, y_12, f_13, g_14, g_15, g_16, hex_17, ⟨hc_17, ⟨rfl, rfl, rfl, rfl, rfl, rfl, rfl⟩⟩⟩⟩)⟩, ⟨hD_17, hR_17⟩⟩⟩, by rw [ht]; exact hP, by rw [hAe]; exact hD⟩, hS.F ht⟩) hS.2.2 dX11_shortest_71
    · refine lv_aload_n hx hb dX11_shortest_29 rfl (lv_at hl 0 rfl) ?_
      refine lv_iload_n hx hb dX11_shortest_30 rfl (lv_at hl 1 rfl) ?_
      refine lv_iload hx hb dX11_shortest_31 (lv_at hl 4 rfl) ?_
      obtain ⟨hP, hD⟩ := ty_opPD (E1 := []) (E2 := [(rf_MO mo mw ma mf m0 m1 mu mv u0 u1 iz (0) mb mn mpt mbg mwr mwk mlf y_12), (rf_RW ct 0 mw 958 f_13), (rf_RW ct 0 ma 958 g_14), (mu, .inl (ct 1, 42, .inr (.inl g_16))), (mv, .inl (ct 1, 42, .inr (.inl g_15)))]) (n := 5) [3, 4, 0, 1, 2] hP hD rfl rfl (by decide +kernel) ty_mva
      refine ty_Ki hP hD hS hA (va_runV (As := [.int p1, .int y_11]) (rest := []) ⟨hx, hb, hml, hown, hts⟩ (m_X11_durationOf l D ct S ws ph xx mo mw ma mf m0 m1 mu mv u0 u1 iz mb (0 : Int32) mn mpt mbg mwr mwk mlf y_12 f_13 G g_14 g_16 g_15 p1 y_11 _ hT hph hy1 hy11 hR_17 hz_6.1 ⟨hex_17.1.1.1, (show y_11.toInt < (G 10).toInt from by rw [← hR_17.2.1.2.2.2.2.2.1]; exact rf_ylt rfl hc_17)⟩) (cm_V 2 hts kc_X11_durationOf ki_RX11 kl_RX11_396 kv_X11_durationOf kx_X11_durationOf kd_X11_durationOf ⟨Nat.le_of_ble_eq_true rfl, Nat.le_of_ble_eq_true rfl⟩) (ty_preE (ci := 11) (q0 := 0) hP hK hD hS hA hX rfl rfl) rfl rfl hl.1 rfl (lv_room (Nat.le_of_ble_eq_true rfl)) dX11_shortest_33 ⟨Nat.le_of_ble_eq_true rfl, Nat.le_of_ble_eq_true rfl⟩) (fun r_18 u H locs hw_19 hP hD hS => ?_)
      obtain ⟨ws_20, men1_21, f1_22, fa1_23, su1_24, sv1_25⟩ := u
      obtain ⟨hT, hp_26⟩ := hw_19
      have hp_26 : (q_X11_durationOf f_13 G g_16 p1 y_11 r_18 men1_21 f1_22 fa1_23 su1_24 sv1_25) ∧ rf_d (f_13 8) f_13 f1_22 ∧ rf_R G (-1) f1_22 := hp_26
      obtain ⟨hq_27, hp_28⟩ := hp_26
      obtain ⟨hd_29, hq_30⟩ := hp_28
      have hD_31 := rf_dt hD_17 hd_29
      have hR_32 := hq_30
      obtain ⟨hP, hD⟩ := ty_shPD (w2 := ([(rf_MO mo mw ma mf m0 m1 mu mv u0 u1 iz (0) mb mn mpt mbg mwr mwk mlf men1_21), (rf_RW ct 0 mw 958 f1_22), (rf_RW ct 0 ma 958 fa1_23), (mu, .inl (ct 1, 42, .inr (.inl su1_24))), (mv, .inl (ct 1, 42, .inr (.inl sv1_25)))] ++ ws_20)) hP hD rfl
      refine lv_istore (lv' := [(5, .int r_18), (0, .ref mo), (1, .int p1), (2, .int y_9), (3, .int y_10), (4, .int y_11)]) hx hb dX11_shortest_36 hl (by decide) rfl (fun ls hl => ?_)
      refine lv_iload hx hb dX11_shortest_38 (lv_at hl 0 rfl) ?_
      refine lv_iconst (v := (-1)) hx hb dX11_shortest_40 (by decide) ?_
      refine lv_icmp_eq (tgt := 64) hx hb dX11_shortest_41 (by decide) (fun hc_34 => ?_) (fun hc_34 => ?_)
      · refine lv_iinc (v := (y_11 + Int32.ofInt 1)) (lv' := [(4, .int (y_11 + Int32.ofInt 1)), (5, .int r_18), (0, .ref mo), (1, .int p1), (2, .int y_9), (3, .int y_10)]) hx hb dX11_shortest_64 hl (k := 5) rfl rfl (by decide) rfl (fun ls hl => ?_)
        refine lv_goto (tgt := 17) hx hb dX11_shortest_67 (by decide) ?_
        obtain ⟨hP, hD⟩ := ty_ordPD (E2 := [(rf_RW ct 0 ma 958 fa1_23), (mu, .inl (ct 1, 42, .inr (.inl su1_24))), (mv, .inl (ct 1, 42, .inr (.inl sv1_25))), (rf_MO mo mw ma mf m0 m1 mu mv u0 u1 iz (0) mb mn mpt mbg mwr mwk mlf men1_21), (rf_RW ct 0 mw 958 f1_22)]) (n := 5) [2, 3, 4, 0, 1] hP hD rfl rfl (by decide +kernel)
        exact ih_17 _ _ _ _ (ty_inc (cm_lt hc_17)) ⟨ws_20, y_9, y_10, (y_11 + Int32.ofInt 1), men1_21, f1_22, fa1_23, sv1_25, su1_24, rfl, hT, hP, hD, hS, (lv_sub hl [2, 3, 4, 5, 0] rfl), hR_32, hD_31, ⟨⟨⟨ty_nn hex_17.1.1.1 (cm_lt hc_17), (by have := hex_17.1.1; have := (show y_11.toInt < (G 10).toInt from by rw [← hR_17.2.1.2.2.2.2.2.1]; exact rf_ylt rfl hc_17); have := hR.1.2.2.2.1; have e9 := rf_oi (n := y_11) (by omega); omega)⟩, q_dre hex_17.1.2 hq_27⟩, q_shos hex_17.1.1.1 hc_17 hex_17.1.2 hex_17.2 hq_27 (Or.inl ⟨hc_34, rfl, rfl⟩)⟩⟩
      · refine lv_iload_n hx hb dX11_shortest_44 rfl (lv_at hl 3 rfl) ?_
        refine lv_iconst (v := (-1)) hx hb dX11_shortest_45 (by decide) ?_
        refine lv_icmp_eq (tgt := 58) hx hb dX11_shortest_46 (by decide) (fun hc_35 => ?_) (fun hc_35 => ?_)
        · refine lv_iload hx hb dX11_shortest_58 (lv_at hl 5 rfl) ?_
          refine lv_istore_n (lv' := [(2, .int y_11), (5, .int r_18), (0, .ref mo), (1, .int p1), (3, .int y_10), (4, .int y_11)]) hx hb dX11_shortest_60 rfl hl (by decide) rfl (fun ls hl => ?_)
          refine lv_iload hx hb dX11_shortest_61 (lv_at hl 1 rfl) ?_
          refine lv_istore_n (lv' := [(3, .int r_18), (2, .int y_11), (5, .int r_18), (0, .ref mo), (1, .int p1), (4, .int y_11)]) hx hb dX11_shortest_63 rfl hl (by decide) rfl (fun ls hl => ?_)
          refine lv_iinc (v := (y_11 + Int32.ofInt 1)) (lv' := [(4, .int (y_11 + Int32.ofInt 1)), (3, .int r_18), (2, .int y_11), (5, .int r_18), (0, .ref mo), (1, .int p1)]) hx hb dX11_shortest_64 hl (k := 5) rfl rfl (by decide) rfl (fun ls hl => ?_)
          refine lv_goto (tgt := 17) hx hb dX11_shortest_67 (by decide) ?_
          obtain ⟨hP, hD⟩ := ty_ordPD (E2 := [(rf_RW ct 0 ma 958 fa1_23), (mu, .inl (ct 1, 42, .inr (.inl su1_24))), (mv, .inl (ct 1, 42, .inr (.inl sv1_25))), (rf_MO mo mw ma mf m0 m1 mu mv u0 u1 iz (0) mb mn mpt mbg mwr mwk mlf men1_21), (rf_RW ct 0 mw 958 f1_22)]) (n := 5) [2, 3, 4, 0, 1] hP hD rfl rfl (by decide +kernel)
          exact ih_17 _ _ _ _ (ty_inc (cm_lt hc_17)) ⟨ws_20, y_11, r_18, (y_11 + Int32.ofInt 1), men1_21, f1_22, fa1_23, sv1_25, su1_24, rfl, hT, hP, hD, hS, (lv_sub hl [4, 5, 2, 1, 0] rfl), hR_32, hD_31, ⟨⟨⟨ty_nn hex_17.1.1.1 (cm_lt hc_17), (by have := hex_17.1.1; have := (show y_11.toInt < (G 10).toInt from by rw [← hR_17.2.1.2.2.2.2.2.1]; exact rf_ylt rfl hc_17); have := hR.1.2.2.2.1; have e9 := rf_oi (n := y_11) (by omega); omega)⟩, q_dre hex_17.1.2 hq_27⟩, q_shos hex_17.1.1.1 hc_17 hex_17.1.2 hex_17.2 hq_27 (Or.inr ⟨hc_34, Or.inl ⟨Or.inl hc_35, rfl, rfl⟩⟩)⟩⟩
        · refine lv_iload hx hb dX11_shortest_49 (lv_at hl 0 rfl) ?_
          refine lv_iload_n hx hb dX11_shortest_51 rfl (lv_at hl 4 rfl) ?_
          refine lv_icmp_lt (tgt := 58) hx hb dX11_shortest_52 (by decide) (fun hc_36 => ?_) (fun hc_36 => ?_)
          · refine lv_iload hx hb dX11_shortest_58 (lv_at hl 5 rfl) ?_
            refine lv_istore_n (lv' := [(2, .int y_11), (5, .int r_18), (0, .ref mo), (1, .int p1), (3, .int y_10), (4, .int y_11)]) hx hb dX11_shortest_60 rfl hl (by decide) rfl (fun ls hl => ?_)
            refine lv_iload hx hb dX11_shortest_61 (lv_at hl 1 rfl) ?_
            refine lv_istore_n (lv' := [(3, .int r_18), (2, .int y_11), (5, .int r_18), (0, .ref mo), (1, .int p1), (4, .int y_11)]) hx hb dX11_shortest_63 rfl hl (by decide) rfl (fun ls hl => ?_)
            refine lv_iinc (v := (y_11 + Int32.ofInt 1)) (lv' := [(4, .int (y_11 + Int32.ofInt 1)), (3, .int r_18), (2, .int y_11), (5, .int r_18), (0, .ref mo), (1, .int p1)]) hx hb dX11_shortest_64 hl (k := 5) rfl rfl (by decide) rfl (fun ls hl => ?_)
            refine lv_goto (tgt := 17) hx hb dX11_shortest_67 (by decide) ?_
            obtain ⟨hP, hD⟩ := ty_ordPD (E2 := [(rf_RW ct 0 ma 958 fa1_23), (mu, .inl (ct 1, 42, .inr (.inl su1_24))), (mv, .inl (ct 1, 42, .inr (.inl sv1_25))), (rf_MO mo mw ma mf m0 m1 mu mv u0 u1 iz (0) mb mn mpt mbg mwr mwk mlf men1_21), (rf_RW ct 0 mw 958 f1_22)]) (n := 5) [2, 3, 4, 0, 1] hP hD rfl rfl (by decide +kernel)
            exact ih_17 _ _ _ _ (ty_inc (cm_lt hc_17)) ⟨ws_20, y_11, r_18, (y_11 + Int32.ofInt 1), men1_21, f1_22, fa1_23, sv1_25, su1_24, rfl, hT, hP, hD, hS, (lv_sub hl [4, 5, 2, 1, 0] rfl), hR_32, hD_31, ⟨⟨⟨ty_nn hex_17.1.1.1 (cm_lt hc_17), (by have := hex_17.1.1; have := (show y_11.toInt < (G 10).toInt from by rw [← hR_17.2.1.2.2.2.2.2.1]; exact rf_ylt rfl hc_17); have := hR.1.2.2.2.1; have e9 := rf_oi (n := y_11) (by omega); omega)⟩, q_dre hex_17.1.2 hq_27⟩, q_shos hex_17.1.1.1 hc_17 hex_17.1.2 hex_17.2 hq_27 (Or.inr ⟨hc_34, Or.inl ⟨Or.inr hc_36, rfl, rfl⟩⟩)⟩⟩
          · refine lv_goto (tgt := 64) hx hb dX11_shortest_55 (by decide) ?_
            refine lv_iinc (v := (y_11 + Int32.ofInt 1)) (lv' := [(4, .int (y_11 + Int32.ofInt 1)), (5, .int r_18), (0, .ref mo), (1, .int p1), (2, .int y_9), (3, .int y_10)]) hx hb dX11_shortest_64 hl (k := 5) rfl rfl (by decide) rfl (fun ls hl => ?_)
            refine lv_goto (tgt := 17) hx hb dX11_shortest_67 (by decide) ?_
            obtain ⟨hP, hD⟩ := ty_ordPD (E2 := [(rf_RW ct 0 ma 958 fa1_23), (mu, .inl (ct 1, 42, .inr (.inl su1_24))), (mv, .inl (ct 1, 42, .inr (.inl sv1_25))), (rf_MO mo mw ma mf m0 m1 mu mv u0 u1 iz (0) mb mn mpt mbg mwr mwk mlf men1_21), (rf_RW ct 0 mw 958 f1_22)]) (n := 5) [2, 3, 4, 0, 1] hP hD rfl rfl (by decide +kernel)
            exact ih_17 _ _ _ _ (ty_inc (cm_lt hc_17)) ⟨ws_20, y_9, y_10, (y_11 + Int32.ofInt 1), men1_21, f1_22, fa1_23, sv1_25, su1_24, rfl, hT, hP, hD, hS, (lv_sub hl [2, 3, 4, 5, 0] rfl), hR_32, hD_31, ⟨⟨⟨ty_nn hex_17.1.1.1 (cm_lt hc_17), (by have := hex_17.1.1; have := (show y_11.toInt < (G 10).toInt from by rw [← hR_17.2.1.2.2.2.2.2.1]; exact rf_ylt rfl hc_17); have := hR.1.2.2.2.1; have e9 := rf_oi (n := y_11) (by omega); omega)⟩, q_dre hex_17.1.2 hq_27⟩, q_shos hex_17.1.1.1 hc_17 hex_17.1.2 hex_17.2 hq_27 (Or.inr ⟨hc_34, Or.inr ⟨hc_35, hc_36, rfl, rfl⟩⟩)⟩⟩
  · have he_37 := hz_7.2
    have hP : va_P D vwCl ([(rf_RW ct 0 ma 958 fa), (mu, .inl (ct 1, 42, .inr (.inl su))), (mv, .inl (ct 1, 42, .inr (.inl sv))), (rf_MO mo mw ma mf m0 m1 mu mv u0 u1 iz (1) mb mn mpt mbg mwr mwk mlf men), (rf_RW ct 0 mw 958 f)] ++ ws_3) H := by rw [he_37] at hP; exact hP
    have hD : va_D A ([(rf_RW ct 0 ma 958 fa), (mu, .inl (ct 1, 42, .inr (.inl su))), (mv, .inl (ct 1, 42, .inr (.inl sv))), (rf_MO mo mw ma mf m0 m1 mu mv u0 u1 iz (1) mb mn mpt mbg mwr mwk mlf men), (rf_RW ct 0 mw 958 f)] ++ ws_3) := by rw [he_37] at hD; exact hD
    refine lv_if_eq (tgt := 10) hx hb dX11_shortest_5 (by decide) (fun hc => absurd hc (by decide)) (fun _ => ?_)
    refine lv_iconst (v := 0) hx hb dX11_shortest_8 (by decide) ?_
    obtain ⟨hP, hD⟩ := ty_ordPD (E2 := [(rf_MO mo mw ma mf m0 m1 mu mv u0 u1 iz (1) mb mn mpt mbg mwr mwk mlf men), (rf_RW ct 0 mw 958 f), (rf_RW ct 0 ma 958 fa), (mu, .inl (ct 1, 42, .inr (.inl su))), (mv, .inl (ct 1, 42, .inr (.inl sv)))]) (n := 5) [3, 4, 0, 1, 2] hP hD rfl rfl (by decide +kernel)
    exact W.iret (v := 0) hx hb hr (fun t ht hW => ⟨⟨0, (ws_3, men, (1 : Int32), f, fa, su, sv), rfl, ⟨hT, ⟨⟨th1_4, trivial, (Or.inr ⟨hz_7, ⟨rfl, rfl, rfl, rfl, rfl, rfl, rfl⟩⟩)⟩, ⟨(rf_dr f), hR⟩⟩⟩, by rw [ht]; exact hP, by rw [hAe]; exact hD⟩, hS.F ht⟩) hS.2.2 dX11_shortest_9
