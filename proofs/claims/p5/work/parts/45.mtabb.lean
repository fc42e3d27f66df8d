def q_bs (f : Nat → Int32) (c v : Int32) : Nat → Int32 → Int32 → Prop
  | 0, lo, hi => lo = 0 ∧ hi = rf_of f c 7 + 1
  | n + 1, lo, hi => ∃ lo2 hi2 : Int32, q_bs f c v n lo2 hi2 ∧ lo2 < hi2 ∧ ∃ r : Int32, q_X11_restAt f c ((lo2 + hi2) / 2) r ∧ ((¬ r < v ∧ lo = lo2 ∧ hi = (lo2 + hi2) / 2) ∨ (r < v ∧ lo = (lo2 + hi2) / 2 + 1 ∧ hi = hi2))
def q_X11_chargeFor (f : Nat → Int32) (G : Nat → Int32) (p1 : Int32) (p2 : Int32) (r : Int32) (th1 : Int32) : Prop := (∃ (th1_4 : Int32), True ∧ ((((0 ≤ p1.toInt ∧ p1.toInt < (G 9).toInt) ∧ th1_4 = 0) ∧ ((¬ (cm_rng p2.toInt64 0 5000) = (0 : Int32) ∧ (∃ (th1_16 : Int32), True ∧ (((0 : Int32) = 0 ∧ th1_16 = 0) ∧ (∃ (y_24 : Int32) (y_25 : Int32), ((0 ≤ y_24.toInt ∧ y_25.toInt ≤ 100001) ∧ ∃ n9 : Nat, q_bs f p1 p2 n9 y_24 y_25) ∧ (y_25 ≤ y_24 ∧ ((y_24 ≤ (rf_of f p1 7) ∧ (r = y_24 ∧ th1 = 0)) ∨ (¬ y_24 ≤ (rf_of f p1 7) ∧ (r = (-1) ∧ th1 = 0)))))))) ∨ ((cm_rng p2.toInt64 0 5000) = (0 : Int32) ∧ (∃ (th1_41 : Int32), True ∧ ((¬ (1 : Int32) = 0 ∧ th1_41 = (2 : Int32)) ∧ (r = 0 ∧ th1 = 2)))))) ∨ ((¬ (0 ≤ p1.toInt ∧ p1.toInt < (G 9).toInt) ∧ th1_4 = 1) ∧ (r = 0 ∧ th1 = 1))))
set_option maxRecDepth 100000 in
set_option maxHeartbeats 4000000 in
theorem m_X11_chargeFor (l : Launch) (D : va_G) (ct : Nat → ClassId) (S : ty_S) (ws : va_W) (ph : va_W → Prop) (xx : Nat → Nat → Nat → Prop) (mo : Nat) (mw : Nat) (ma : Nat) (mf : Nat) (m0 : Nat) (m1 : Nat) (mu : Nat) (mv : Nat) (u0 : Nat) (u1 : Nat) (iz : Nat) (mb : Nat) (th : Int32) (mn : Int32) (mpt : Int32) (mbg : Int32) (mwr : Int32) (mwk : Int32) (mlf : Int32) (men : Int32) (f : Nat → Int32) (G : Nat → Int32) (cx : Int) (p1 : Int32) (p2 : Int32) (sz : Nat) (hT : ty_V ct S ph ws) (hph : ty_C ph xx) (hy1 : ty_y1 xx) (hR : rf_R G cx f) : Met l yX11_chargeFor (ws_ yX11_chargeFor cX11_chargeFor 6 (some .int)) ({ frames := 2, cells := 0, slots := 0, locals := 53 } : Room) (va_Pc [.ref mo, .int p1, .int p2] (cmP D ct sz ([(rf_MO mo mw ma mf m0 m1 mu mv u0 u1 iz th mb mn mpt mbg mwr mwk mlf men), (rf_RW ct 0 mw 958 f)] ++ ws))) (va_Qi (fun (r : Int32) (u : va_W × Int32) => match u with | (u9, th1) => ty_V ct S ph u9 ∧ (q_X11_chargeFor f G p1 p2 r th1)) (cmB D ([(rf_MO mo mw ma mf m0 m1 mu mv u0 u1 iz th mb mn mpt mbg mwr mwk mlf men), (rf_RW ct 0 mw 958 f)] ++ ws) sz (fun (u : va_W × Int32) => match u with | (u9, th1) => ([(rf_MO mo mw ma mf m0 m1 mu mv u0 u1 iz th1 mb mn mpt mbg mwr mwk mlf men), (rf_RW ct 0 mw 958 f)] ++ u9))) (va_A ([(rf_MO mo mw ma mf m0 m1 mu mv u0 u1 iz th mb mn mpt mbg mwr mwk mlf men), (rf_RW ct 0 mw 958 f)] ++ ws) sz)) 0 0 (va_A ([(rf_MO mo mw ma mf m0 m1 mu mv u0 u1 iz th mb mn mpt mbg mwr mwk mlf men), (rf_RW ct 0 mw 958 f)] ++ ws) sz) := by
  refine Met.ofW (cc := cX11_chargeFor) (maxL := 6) (ret := (some .int)) (by decide) rfl ?_
  intro p e s m args below meth c s₁ B hml hv
  obtain ⟨rfl, hsz, hP, hK, hD0, hX⟩ := hv
  have hx := B.exec
  have hb := B.bytes
  have hr := B.returns
  have hts := ws_all (atoms_spec (ws := ws_ yX11_chargeFor cX11_chargeFor 6 (some .int)) B.pre)
  have hown : s.vm.findClass RX11 = some m.cls := findClass_of_methodNamed B.named
  have hlocks := B.notSynchronized
  subst hsz
  have hD := hD0.self (sz := s.heap.size)
  generalize hAe : va_A ([(rf_MO mo mw ma mf m0 m1 mu mv u0 u1 iz th mb mn mpt mbg mwr mwk mlf men), (rf_RW ct 0 mw 958 f)] ++ ws) s.heap.size = A at hD hX ⊢
  have hA : ∀ q : Nat, s.heap.size ≤ q → A q := fun q h => by rw [← hAe]; exact Or.inr h
  have hS : va_S A s.heap s.heap [] := va_S.rf
  have hl := lv_entry ([.ref mo, .int p1, .int p2]) (n := 6) (Nat.le_of_ble_eq_true rfl)
  rw [lg_entry_eq]
  generalize (lg_sl ([.ref mo, .int p1, .int p2]) ++ List.replicate (6 - (lg_sl ([.ref mo, .int p1, .int p2])).length) Slot.unset).toArray = ls at hl ⊢
  have hl : lv_has ls 6 [(0, .ref mo), (1, .int p1), (2, .int p2)] := hl
  refine lv_aload_n hx hb dX11_chargeFor_0 rfl (lv_at hl 0 rfl) ?_
  refine lv_iload_n hx hb dX11_chargeFor_1 rfl (lv_at hl 1 rfl) ?_
  obtain ⟨hP, hD⟩ := ty_ipPD (E1 := []) (E2 := [(rf_MO mo mw ma mf m0 m1 mu mv u0 u1 iz th mb mn mpt mbg mwr mwk mlf men), (rf_RW ct 0 mw 958 f)]) hP hD rfl ty_mva
  refine ty_Ki hP hD hS hA (va_runV (As := [.int p1]) (rest := []) ⟨hx, hb, hml, hown, hts⟩ (m_X11_noChannel l D ct S ws ph xx mo mw ma mf m0 m1 mu mv u0 u1 iz mb th mn mpt mbg mwr mwk mlf men f G cx p1 _ hT hph hy1 hR) (cm_V 1 hts kc_X11_noChannel ki_RX11 kl_RX11_344 kv_X11_noChannel kx_X11_noChannel kd_X11_noChannel ⟨Nat.le_of_ble_eq_true rfl, Nat.le_of_ble_eq_true rfl⟩) (ty_preE (ci := 11) (q0 := 0) hP hK hD hS hA hX rfl rfl) rfl rfl hl.1 rfl (lv_room (Nat.le_of_ble_eq_true rfl)) dX11_chargeFor_2 ⟨Nat.le_of_ble_eq_true rfl, Nat.le_of_ble_eq_true rfl⟩) (fun r_1 u H locs hw_2 hP hD hS => ?_)
  obtain ⟨ws_3, th1_4⟩ := u
  obtain ⟨hT, hp_5⟩ := hw_2
  have hp_5 : ((r_1 = 0 ∧ (0 ≤ p1.toInt ∧ p1.toInt < (G 9).toInt) ∧ th1_4 = 0) ∨ (r_1 = 1 ∧ ¬ (0 ≤ p1.toInt ∧ p1.toInt < (G 9).toInt) ∧ th1_4 = 1)) := hp_5
  obtain ⟨hP, hD⟩ := ty_shPD (w2 := ([(rf_MO mo mw ma mf m0 m1 mu mv u0 u1 iz th1_4 mb mn mpt mbg mwr mwk mlf men), (rf_RW ct 0 mw 958 f)] ++ ws_3)) hP hD rfl
  rcases hp_5 with ⟨rfl, hz_6⟩ | ⟨rfl, hz_7⟩
  · have he_8 := hz_6.2
    have hP : va_P D vwCl ([(rf_MO mo mw ma mf m0 m1 mu mv u0 u1 iz (0) mb mn mpt mbg mwr mwk mlf men), (rf_RW ct 0 mw 958 f)] ++ ws_3) H := by rw [he_8] at hP; exact hP
    have hD : va_D A ([(rf_MO mo mw ma mf m0 m1 mu mv u0 u1 iz (0) mb mn mpt mbg mwr mwk mlf men), (rf_RW ct 0 mw 958 f)] ++ ws_3) := by rw [he_8] at hD; exact hD
    refine lv_if_ne (tgt := 33) hx hb dX11_chargeFor_5 (by decide) (fun hc => absurd (by decide) hc) (fun _ => ?_)
    refine lv_aload_n hx hb dX11_chargeFor_8 rfl (lv_at hl 0 rfl) ?_
    refine lv_iload_n hx hb dX11_chargeFor_9 rfl (lv_at hl 2 rfl) ?_
    refine lv_i2l hx hb dX11_chargeFor_10 rfl ?_
    refine lv_lconst (v := 0) hx hb dX11_chargeFor_11 (by decide) ?_
    refine lv_ldc2 hx hb hown (hts _ kl_RX11_338) dX11_chargeFor_12 ?_
    obtain ⟨hP, hD⟩ := ty_ipPD (E1 := [(rf_MO mo mw ma mf m0 m1 mu mv u0 u1 iz (0) mb mn mpt mbg mwr mwk mlf men), (rf_RW ct 0 mw 958 f)]) (E2 := []) hP hD rfl ty_mva
    refine ty_Ki hP hD hS hA (va_runS (As := [.long p2.toInt64, .long 0, .long 5000]) (rest := [.ref mo]) ⟨hx, hb, hml, hown, hts⟩ (m_X11_in l D ct S ws_3 ph xx p2.toInt64 (0 : Int64) (5000 : Int64) _ hT hph hy1) (cm_S 3 hts kc_X11_in ki_RX11 kl_RX11_70 ks_X11_in kd_X11_in ⟨Nat.le_of_ble_eq_true rfl, Nat.le_of_ble_eq_true rfl⟩) (ty_preS hP hK hD hS hA hX) rfl rfl hl.1 rfl (lv_room (Nat.le_of_ble_eq_true rfl)) dX11_chargeFor_15 ⟨Nat.le_of_ble_eq_true rfl, Nat.le_of_ble_eq_true rfl⟩) (fun r_9 u H locs hw_10 hP hD hS => ?_)
    obtain ⟨ws_11, rfl⟩ : ∃ z, z = u := ⟨_, rfl⟩
    obtain ⟨hT, rfl⟩ := hw_10
    obtain ⟨hP, hD⟩ := ty_shPD (w2 := ([(rf_MO mo mw ma mf m0 m1 mu mv u0 u1 iz (0) mb mn mpt mbg mwr mwk mlf men), (rf_RW ct 0 mw 958 f)] ++ ws_11)) hP hD rfl
    refine lv_if_ne (tgt := 25) hx hb dX11_chargeFor_18 (by decide) (fun hc_12 => ?_) (fun hc_12 => ?_)
    · refine lv_iconst (v := 0) hx hb dX11_chargeFor_25 (by decide) ?_
      refine lv_iconst (v := 2) hx hb dX11_chargeFor_26 (by decide) ?_
      obtain ⟨hP, hD⟩ := ty_opPD (E1 := [(rf_RW ct 0 mw 958 f)]) (E2 := [(rf_MO mo mw ma mf m0 m1 mu mv u0 u1 iz (0) mb mn mpt mbg mwr mwk mlf men)]) (n := 2) [1, 0] hP hD rfl rfl (by decide +kernel) ty_mva
      refine ty_Ki hP hD hS hA (va_runV (As := [.int 0, .int 2]) (rest := []) ⟨hx, hb, hml, hown, hts⟩ (m_throwsIf_0 l D ct S ws_11 ph xx mo mw ma mf m0 m1 mu mv u0 u1 iz mb mn mpt mbg mwr mwk mlf men (0 : Int32) (2 : Int32) _ hT hph hy1 (by decide)) (cm_V 2 hts kc_X11_throwsIf ki_RX11 kl_RX11_328 kv_X11_throwsIf kx_X11_throwsIf kd_X11_throwsIf ⟨Nat.le_of_ble_eq_true rfl, Nat.le_of_ble_eq_true rfl⟩) (ty_preE (ci := 11) (q0 := 1) hP hK hD hS hA hX rfl rfl) rfl rfl hl.1 rfl (lv_room (Nat.le_of_ble_eq_true rfl)) dX11_chargeFor_27 ⟨Nat.le_of_ble_eq_true rfl, Nat.le_of_ble_eq_true rfl⟩) (fun r_13 u H locs hw_14 hP hD hS => ?_)
      obtain ⟨ws_15, th1_16⟩ := u
      obtain ⟨hT, hp_17⟩ := hw_14
      have hp_17 : ((r_13 = 0 ∧ (0 : Int32) = 0 ∧ th1_16 = 0) ∨ (r_13 = 1 ∧ ¬ (0 : Int32) = 0 ∧ th1_16 = (2 : Int32))) := hp_17
      obtain ⟨hP, hD⟩ := ty_shPD (w2 := ([(rf_RW ct 0 mw 958 f), (rf_MO mo mw ma mf m0 m1 mu mv u0 u1 iz th1_16 mb mn mpt mbg mwr mwk mlf men)] ++ ws_15)) hP hD rfl
      rcases hp_17 with ⟨rfl, hz_18⟩ | ⟨rfl, hz_19⟩
      · have he_20 := hz_18.2
        have hP : va_P D vwCl ([(rf_RW ct 0 mw 958 f), (rf_MO mo mw ma mf m0 m1 mu mv u0 u1 iz (0) mb mn mpt mbg mwr mwk mlf men)] ++ ws_15) H := by rw [he_20] at hP; exact hP
        have hD : va_D A ([(rf_RW ct 0 mw 958 f), (rf_MO mo mw ma mf m0 m1 mu mv u0 u1 iz (0) mb mn mpt mbg mwr mwk mlf men)] ++ ws_15) := by rw [he_20] at hD; exact hD
        refine lv_if_eq (tgt := 35) hx hb dX11_chargeFor_30 (by decide) (fun _ => ?_) (fun hc => absurd (by decide) hc)
        refine lv_iconst (v := 0) hx hb dX11_chargeFor_35 (by decide) ?_
        refine lv_istore_n (lv' := [(3, .int 0), (0, .ref mo), (1, .int p1), (2, .int p2)]) hx hb dX11_chargeFor_36 rfl hl (by decide) rfl (fun ls hl => ?_)
        refine lv_aload_n hx hb dX11_chargeFor_37 rfl (lv_at hl 1 rfl) ?_
        refine lv_iload_n hx hb dX11_chargeFor_38 rfl (lv_at hl 2 rfl) ?_
        refine lv_bipush (v := 7) hx hb dX11_chargeFor_39 (by decide) ?_
        obtain ⟨hP, hD⟩ := ty_opPD (E1 := []) (E2 := [(rf_MO mo mw ma mf m0 m1 mu mv u0 u1 iz (0) mb mn mpt mbg mwr mwk mlf men), (rf_RW ct 0 mw 958 f)]) (n := 2) [1, 0] hP hD rfl rfl (by decide +kernel) ty_mva
        refine ty_Ki hP hD hS hA (va_runV (As := [.int p1, .int 7]) (rest := []) ⟨hx, hb, hml, hown, hts⟩ (m_of_7 l D ct S ws_15 ph xx mo mw ma mf m0 m1 mu mv u0 u1 iz mb (0 : Int32) mn mpt mbg mwr mwk mlf men f G cx p1 _ hT hph hy1 hR hz_6.1) (cm_V 2 hts kc_X11_of ki_RX11 kl_RX11_209 kv_X11_of kx_X11_of kd_X11_of ⟨Nat.le_of_ble_eq_true rfl, Nat.le_of_ble_eq_true rfl⟩) (ty_preE (ci := 11) (q0 := 0) hP hK hD hS hA hX rfl rfl) rfl rfl hl.1 rfl (lv_room (Nat.le_of_ble_eq_true rfl)) dX11_chargeFor_41 ⟨Nat.le_of_ble_eq_true rfl, Nat.le_of_ble_eq_true rfl⟩) (fun r_21 u H locs hw_22 hP hD hS => ?_)
        obtain ⟨ws_23, rfl⟩ : ∃ z, z = u := ⟨_, rfl⟩
        obtain ⟨hT, rfl⟩ := hw_22
        obtain ⟨hP, hD⟩ := ty_shPD (w2 := ([(rf_MO mo mw ma mf m0 m1 mu mv u0 u1 iz (0) mb mn mpt mbg mwr mwk mlf men), (rf_RW ct 0 mw 958 f)] ++ ws_23)) hP hD rfl
        refine lv_iconst (v := 1) hx hb dX11_chargeFor_44 (by decide) ?_
        refine lv_iadd hx hb dX11_chargeFor_45 ?_
        refine lv_istore (lv' := [(4, .int ((rf_of f p1 7) + 1)), (3, .int 0), (0, .ref mo), (1, .int p1), (2, .int p2)]) hx hb dX11_chargeFor_46 hl (by decide) rfl (fun ls hl => ?_)
        refine ty_loop (I := fun μ H locs ls => ∃ (ws : va_W) (y_24 : Int32) (y_25 : Int32), μ = (y_25.toInt - y_24.toInt).toNat ∧ ty_V ct S ph ws ∧ va_P D vwCl ([(rf_MO mo mw ma mf m0 m1 mu mv u0 u1 iz (0) mb mn mpt mbg mwr mwk mlf men), (rf_RW ct 0 mw 958 f)] ++ ws) H ∧ va_D A ([(rf_MO mo mw ma mf m0 m1 mu mv u0 u1 iz (0) mb mn mpt mbg mwr mwk mlf men), (rf_RW ct 0 mw 958 f)] ++ ws) ∧ va_S A s.heap H locs ∧ lv_has ls 6 [(0, .ref mo), (1, .int p1), (2, .int p2), (3, .int y_24), (4, .int y_25)] ∧ (0 ≤ y_24.toInt ∧ y_25.toInt ≤ 100001) ∧ ∃ n9 : Nat, q_bs f p1 p2 n9 y_24 y_25) ⟨_, ws_23, (0 : Int32), ((rf_of f p1 7) + 1), rfl, hT, hP, hD, hS, (lv_sub hl [2, 3, 4, 1, 0] rfl), ⟨(by have := rf_qp hR hz_6.1; have o : (1 : Int32).toInt = 1 := (by decide); have e : (rf_of f p1 7 + 1).toInt = (rf_of f p1 7).toInt + 1 := rf_p1 (by omega); have z : (0 : Int32).toInt = 0 := (by decide); omega), 0, rfl, rfl⟩⟩ (fun μ H locs ls hI ih_48 => ?_)
        obtain ⟨ws, y_24, y_25, rfl, hT, hP, hD, hS, hl, hex_48⟩ := hI
        refine lv_iload_n hx hb dX11_chargeFor_48 rfl (lv_at hl 3 rfl) ?_
        refine lv_iload hx hb dX11_chargeFor_49 (lv_at hl 4 rfl) ?_
        refine lv_icmp_ge (tgt := 88) hx hb dX11_chargeFor_51 (by decide) (fun hc_26 => ?_) (fun hc_26 => ?_)
        · refine lv_iload_n hx hb dX11_chargeFor_88 rfl (lv_at hl 3 rfl) ?_
          refine lv_aload_n hx hb dX11_chargeFor_89 rfl (lv_at hl 0 rfl) ?_
          refine lv_iload_n hx hb dX11_chargeFor_90 rfl (lv_at hl 1 rfl) ?_
          refine lv_bipush (v := 7) hx hb dX11_chargeFor_91 (by decide) ?_
          obtain ⟨hP, hD⟩ := ty_ipPD (E1 := []) (E2 := [(rf_MO mo mw ma mf m0 m1 mu mv u0 u1 iz (0) mb mn mpt mbg mwr mwk mlf men), (rf_RW ct 0 mw 958 f)]) hP hD rfl ty_mva
          refine ty_Ki hP hD hS hA (va_runV (As := [.int p1, .int 7]) (rest := [.int y_24]) ⟨hx, hb, hml, hown, hts⟩ (m_of_7 l D ct S ws ph xx mo mw ma mf m0 m1 mu mv u0 u1 iz mb (0 : Int32) mn mpt mbg mwr mwk mlf men f G cx p1 _ hT hph hy1 hR hz_6.1) (cm_V 2 hts kc_X11_of ki_RX11 kl_RX11_209 kv_X11_of kx_X11_of kd_X11_of ⟨Nat.le_of_ble_eq_true rfl, Nat.le_of_ble_eq_true rfl⟩) (ty_preE (ci := 11) (q0 := 0) hP hK hD hS hA hX rfl rfl) rfl rfl hl.1 rfl (lv_room (Nat.le_of_ble_eq_true rfl)) dX11_chargeFor_93 ⟨Nat.le_of_ble_eq_true rfl, Nat.le_of_ble_eq_true rfl⟩) (fun r_27 u H locs hw_28 hP hD hS => ?_)
          obtain ⟨ws_29, rfl⟩ : ∃ z, z = u := ⟨_, rfl⟩
          obtain ⟨hT, rfl⟩ := hw_28
          obtain ⟨hP, hD⟩ := ty_shPD (w2 := ([(rf_MO mo mw ma mf m0 m1 mu mv u0 u1 iz (0) mb mn mpt mbg mwr mwk mlf men), (rf_RW ct 0 mw 958 f)] ++ ws_29)) hP hD rfl
          refine lv_icmp_le (tgt := 103) hx hb dX11_chargeFor_96 (by decide) (fun hc_30 => ?_) (fun hc_30 => ?_)
          · refine lv_iload_n hx hb dX11_chargeFor_103 rfl (lv_at hl 3 rfl) ?_
            exact W.iret (v := y_24) hx hb hr (fun t ht hW => ⟨⟨y_24, (ws_29, (0 : Int32)), rfl, ⟨hT, ⟨th1_4, trivial, (Or.inl ⟨hz_6, (Or.inl ⟨hc_12, ⟨th1_16, trivial, ⟨hz_18, ⟨y_24, y_25, hex_48, ⟨hc_26, (Or.inl ⟨hc_30, ⟨rfl, rfl⟩⟩)⟩⟩⟩⟩⟩)⟩)⟩⟩, by rw [ht]; exact hP, by rw [hAe]; exact hD⟩, hS.F ht⟩) hS.2.2 dX11_chargeFor_104
          · refine lv_iconst (v := (-1)) hx hb dX11_chargeFor_99 (by decide) ?_
            refine lv_goto (tgt := 104) hx hb dX11_chargeFor_100 (by decide) ?_
            exact W.iret (v := (-1)) hx hb hr (fun t ht hW => ⟨⟨(-1), (ws_29, (0 : Int32)), rfl, ⟨hT, ⟨th1_4, trivial, (Or.inl ⟨hz_6, (Or.inl ⟨hc_12, ⟨th1_16, trivial, ⟨hz_18, ⟨y_24, y_25, hex_48, ⟨hc_26, (Or.inr ⟨hc_30, ⟨rfl, rfl⟩⟩)⟩⟩⟩⟩⟩)⟩)⟩⟩, by rw [ht]; exact hP, by rw [hAe]; exact hD⟩, hS.F ht⟩) hS.2.2 dX11_chargeFor_104
        · refine lv_iload_n hx hb dX11_chargeFor_54 rfl (lv_at hl 3 rfl) ?_
          refine lv_iload hx hb dX11_chargeFor_55 (lv_at hl 4 rfl) ?_
          refine lv_iadd hx hb dX11_chargeFor_57 ?_
          refine lv_iconst (v := 2) hx hb dX11_chargeFor_58 (by decide) ?_
          refine lv_idiv hx hb dX11_chargeFor_59 (by decide) ?_
          refine lv_istore (lv' := [(5, .int ((y_24 + y_25) / 2)), (0, .ref mo), (1, .int p1), (2, .int p2), (3, .int y_24), (4, .int y_25)]) hx hb dX11_chargeFor_60 hl (by decide) rfl (fun ls hl => ?_)
          refine lv_aload_n hx hb dX11_chargeFor_62 rfl (lv_at hl 1 rfl) ?_
          refine lv_iload_n hx hb dX11_chargeFor_63 rfl (lv_at hl 2 rfl) ?_
          refine lv_iload hx hb dX11_chargeFor_64 (lv_at hl 0 rfl) ?_
          obtain ⟨hP, hD⟩ := ty_ipPD (E1 := []) (E2 := [(rf_MO mo mw ma mf m0 m1 mu mv u0 u1 iz (0) mb mn mpt mbg mwr mwk mlf men), (rf_RW ct 0 mw 958 f)]) hP hD rfl ty_mva
          refine ty_Ki hP hD hS hA (va_runV (As := [.int p1, .int ((y_24 + y_25) / 2)]) (rest := []) ⟨hx, hb, hml, hown, hts⟩ (m_X11_restAt l D ct S ws ph xx mo mw ma mf m0 m1 mu mv u0 u1 iz mb (0 : Int32) mn mpt mbg mwr mwk mlf men f G cx p1 ((y_24 + y_25) / 2) _ hT hph hy1 hR hz_6.1 (by have := (rf_mid hex_48.1.1 hex_48.1.2 hc_26); have := hex_48.1; omega)) (cm_V 2 hts kc_X11_restAt ki_RX11 kl_RX11_231 kv_X11_restAt kx_X11_restAt kd_X11_restAt ⟨Nat.le_of_ble_eq_true rfl, Nat.le_of_ble_eq_true rfl⟩) (ty_preE (ci := 11) (q0 := 0) hP hK hD hS hA hX rfl rfl) rfl rfl hl.1 rfl (lv_room (Nat.le_of_ble_eq_true rfl)) dX11_chargeFor_66 ⟨Nat.le_of_ble_eq_true rfl, Nat.le_of_ble_eq_true rfl⟩) (fun r_31 u H locs hw_32 hP hD hS => ?_)
          obtain ⟨ws_33, rfl⟩ : ∃ z, z = u := ⟨_, rfl⟩
          obtain ⟨hT, hp_34⟩ := hw_32
          have hp_34 : (q_X11_restAt f p1 ((y_24 + y_25) / 2) r_31) := hp_34
          obtain ⟨hP, hD⟩ := ty_shPD (w2 := ([(rf_MO mo mw ma mf m0 m1 mu mv u0 u1 iz (0) mb mn mpt mbg mwr mwk mlf men), (rf_RW ct 0 mw 958 f)] ++ ws_33)) hP hD rfl
          refine lv_iload_n hx hb dX11_chargeFor_69 rfl (lv_at hl 3 rfl) ?_
          refine lv_icmp_lt (tgt := 80) hx hb dX11_chargeFor_70 (by decide) (fun hc_37 => ?_) (fun hc_37 => ?_)
          · refine lv_iload hx hb dX11_chargeFor_80 (lv_at hl 0 rfl) ?_
            refine lv_iconst (v := 1) hx hb dX11_chargeFor_82 (by decide) ?_
            refine lv_iadd hx hb dX11_chargeFor_83 ?_
            refine lv_istore_n (lv' := [(3, .int (((y_24 + y_25) / 2) + 1)), (5, .int ((y_24 + y_25) / 2)), (0, .ref mo), (1, .int p1), (2, .int p2), (4, .int y_25)]) hx hb dX11_chargeFor_84 rfl hl (by decide) rfl (fun ls hl => ?_)
            refine lv_goto (tgt := 48) hx hb dX11_chargeFor_85 (by decide) ?_
            exact ih_48 _ _ _ _ (by have := (rf_mid hex_48.1.1 hex_48.1.2 hc_26); have o : (1 : Int32).toInt = 1 := (by decide); have := hex_48.1; have := rf_inc9 (x := (y_24 + y_25) / 2) (a := 0) (b := 100000) (by omega) (by omega) (by omega); have e : (((y_24 + y_25) / 2) + 1).toInt = ((y_24 + y_25) / 2).toInt + 1 := rf_p1 (by omega); have := rf_lth hc_26; omega) ⟨ws_33, (((y_24 + y_25) / 2) + 1), y_25, rfl, hT, hP, hD, hS, (lv_sub hl [2, 3, 4, 0, 5] rfl), ⟨(by have := (rf_mid hex_48.1.1 hex_48.1.2 hc_26); have := hex_48.1; have e : (((y_24 + y_25) / 2) + 1).toInt = ((y_24 + y_25) / 2).toInt + 1 := rf_p1 (by omega); omega), hex_48.2.elim (fun n9 q9 => ⟨n9 + 1, _, _, q9, cm_lt hc_26, _, hp_34, Or.inr ⟨hc_37, rfl, rfl⟩⟩)⟩⟩
          · refine lv_iload hx hb dX11_chargeFor_73 (lv_at hl 0 rfl) ?_
            refine lv_istore (lv' := [(4, .int ((y_24 + y_25) / 2)), (5, .int ((y_24 + y_25) / 2)), (0, .ref mo), (1, .int p1), (2, .int p2), (3, .int y_24)]) hx hb dX11_chargeFor_75 hl (by decide) rfl (fun ls hl => ?_)
            refine lv_goto (tgt := 85) hx hb dX11_chargeFor_77 (by decide) ?_
            refine lv_goto (tgt := 48) hx hb dX11_chargeFor_85 (by decide) ?_
            exact ih_48 _ _ _ _ (by have := (rf_mid hex_48.1.1 hex_48.1.2 hc_26); have o : (1 : Int32).toInt = 1 := (by decide); have := hex_48.1; have := rf_inc9 (x := (y_24 + y_25) / 2) (a := 0) (b := 100000) (by omega) (by omega) (by omega); have e : (((y_24 + y_25) / 2) + 1).toInt = ((y_24 + y_25) / 2).toInt + 1 := rf_p1 (by omega); have := rf_lth hc_26; omega) ⟨ws_33, y_24, ((y_24 + y_25) / 2), rfl, hT, hP, hD, hS, (lv_sub hl [2, 3, 4, 5, 0] rfl), ⟨(by have := (rf_mid hex_48.1.1 hex_48.1.2 hc_26); have := hex_48.1; have e : (((y_24 + y_25) / 2) + 1).toInt = ((y_24 + y_25) / 2).toInt + 1 := rf_p1 (by omega); omega), hex_48.2.elim (fun n9 q9 => ⟨n9 + 1, _, _, q9, cm_lt hc_26, _, hp_34, Or.inl ⟨hc_37, rfl, rfl⟩⟩)⟩⟩
      · exact absurd rfl hz_19.1
    · refine lv_iconst (v := 1) hx hb dX11_chargeFor_21 (by decide) ?_
      refine lv_goto (tgt := 26) hx hb dX11_chargeFor_22 (by decide) ?_
      refine lv_iconst (v := 2) hx hb dX11_chargeFor_26 (by decide) ?_
      obtain ⟨hP, hD⟩ := ty_opPD (E1 := [(rf_RW ct 0 mw 958 f)]) (E2 := [(rf_MO mo mw ma mf m0 m1 mu mv u0 u1 iz (0) mb mn mpt mbg mwr mwk mlf men)]) (n := 2) [1, 0] hP hD rfl rfl (by decide +kernel) ty_mva
      refine ty_Ki hP hD hS hA (va_runV (As := [.int 1, .int 2]) (rest := []) ⟨hx, hb, hml, hown, hts⟩ (m_throwsIf_0 l D ct S ws_11 ph xx mo mw ma mf m0 m1 mu mv u0 u1 iz mb mn mpt mbg mwr mwk mlf men (1 : Int32) (2 : Int32) _ hT hph hy1 (by decide)) (cm_V 2 hts kc_X11_throwsIf ki_RX11 kl_RX11_328 kv_X11_throwsIf kx_X11_throwsIf kd_X11_throwsIf ⟨Nat.le_of_ble_eq_true rfl, Nat.le_of_ble_eq_true rfl⟩) (ty_preE (ci := 11) (q0 := 1) hP hK hD hS hA hX rfl rfl) rfl rfl hl.1 rfl (lv_room (Nat.le_of_ble_eq_true rfl)) dX11_chargeFor_27 ⟨Nat.le_of_ble_eq_true rfl, Nat.le_of_ble_eq_true rfl⟩) (fun r_38 u H locs hw_39 hP hD hS => ?_)
      obtain ⟨ws_40, th1_41⟩ := u
      obtain ⟨hT, hp_42⟩ := hw_39
      have hp_42 : ((r_38 = 0 ∧ (1 : Int32) = 0 ∧ th1_41 = 0) ∨ (r_38 = 1 ∧ ¬ (1 : Int32) = 0 ∧ th1_41 = (2 : Int32))) := hp_42
      obtain ⟨hP, hD⟩ := ty_shPD (w2 := ([(rf_RW ct 0 mw 958 f), (rf_MO mo mw ma mf m0 m1 mu mv u0 u1 iz th1_41 mb mn mpt mbg mwr mwk mlf men)] ++ ws_40)) hP hD rfl
      rcases hp_42 with ⟨rfl, hz_43⟩ | ⟨rfl, hz_44⟩
      · exact absurd hz_43.1 (by decide)
      · have he_45 := hz_44.2
        have hP : va_P D vwCl ([(rf_RW ct 0 mw 958 f), (rf_MO mo mw ma mf m0 m1 mu mv u0 u1 iz (2) mb mn mpt mbg mwr mwk mlf men)] ++ ws_40) H := by rw [he_45] at hP; exact hP
        have hD : va_D A ([(rf_RW ct 0 mw 958 f), (rf_MO mo mw ma mf m0 m1 mu mv u0 u1 iz (2) mb mn mpt mbg mwr mwk mlf men)] ++ ws_40) := by rw [he_45] at hD; exact hD
        refine lv_if_eq (tgt := 35) hx hb dX11_chargeFor_30 (by decide) (fun hc => absurd hc (by decide)) (fun _ => ?_)
        refine lv_iconst (v := 0) hx hb dX11_chargeFor_33 (by decide) ?_
        obtain ⟨hP, hD⟩ := ty_ordPD (E2 := [(rf_MO mo mw ma mf m0 m1 mu mv u0 u1 iz (2) mb mn mpt mbg mwr mwk mlf men), (rf_RW ct 0 mw 958 f)]) (n := 2) [1, 0] hP hD rfl rfl (by decide +kernel)
        exact W.iret (v := 0) hx hb hr (fun t ht hW => ⟨⟨0, (ws_40, (2 : Int32)), rfl, ⟨hT, ⟨th1_4, trivial, (Or.inl ⟨hz_6, (Or.inr ⟨hc_12, ⟨th1_41, trivial, ⟨hz_44, ⟨rfl, rfl⟩⟩⟩⟩)⟩)⟩⟩, by rw [ht]; exact hP, by rw [hAe]; exact hD⟩, hS.F ht⟩) hS.2.2 dX11_chargeFor_34
  · have he_46 := hz_7.2
    have hP : va_P D vwCl ([(rf_MO mo mw ma mf m0 m1 mu mv u0 u1 iz (1) mb mn mpt mbg mwr mwk mlf men), (rf_RW ct 0 mw 958 f)] ++ ws_3) H := by rw [he_46] at hP; exact hP
    have hD : va_D A ([(rf_MO mo mw ma mf m0 m1 mu mv u0 u1 iz (1) mb mn mpt mbg mwr mwk mlf men), (rf_RW ct 0 mw 958 f)] ++ ws_3) := by rw [he_46] at hD; exact hD
    refine lv_if_ne (tgt := 33) hx hb dX11_chargeFor_5 (by decide) (fun _ => ?_) (fun hc => absurd hc (by decide))
    refine lv_iconst (v := 0) hx hb dX11_chargeFor_33 (by decide) ?_
    exact W.iret (v := 0) hx hb hr (fun t ht hW => ⟨⟨0, (ws_3, (1 : Int32)), rfl, ⟨hT, ⟨th1_4, trivial, (Or.inr ⟨hz_7, ⟨rfl, rfl⟩⟩)⟩⟩, by rw [ht]; exact hP, by rw [hAe]; exact hD⟩, hS.F ht⟩) hS.2.2 dX11_chargeFor_34
def q_X11_repeats (f : Nat → Int32) (G : Nat → Int32) (p1 : Int32) (p2 : Int32) (r : Int32) (th1 : Int32) : Prop := (∃ (th1_4 : Int32), True ∧ ((((0 ≤ p1.toInt ∧ p1.toInt < (G 9).toInt) ∧ th1_4 = 0) ∧ (((rf_of f p1 1) = ((-1) : Int32) ∧ (r = 0 ∧ th1 = 0)) ∨ (¬ (rf_of f p1 1) = ((-1) : Int32) ∧ (((cm_rng p2.toInt64 0 (((f (96 + 37 * (rf_of f p1 1).toInt.toNat)) - 1).toInt64)) = (0 : Int32) ∧ (r = 0 ∧ th1 = 0)) ∨ (¬ (cm_rng p2.toInt64 0 (((f (96 + 37 * (rf_of f p1 1).toInt.toNat)) - 1).toInt64)) = (0 : Int32) ∧ (r = (rf_of f p1 (24 + p2).toInt.toNat) ∧ th1 = 0)))))) ∨ ((¬ (0 ≤ p1.toInt ∧ p1.toInt < (G 9).toInt) ∧ th1_4 = 1) ∧ (r = 0 ∧ th1 = 1))))
set_option maxRecDepth 100000 in
set_option maxHeartbeats 4000000 in
theorem m_X11_repeats (l : Launch) (D : va_G) (ct : Nat → ClassId) (S : ty_S) (ws : va_W) (ph : va_W → Prop) (xx : Nat → Nat → Nat → Prop) (mo : Nat) (mw : Nat) (ma : Nat) (mf : Nat) (m0 : Nat) (m1 : Nat) (mu : Nat) (mv : Nat) (u0 : Nat) (u1 : Nat) (iz : Nat) (mb : Nat) (th : Int32) (mn : Int32) (mpt : Int32) (mbg : Int32) (mwr : Int32) (mwk : Int32) (mlf : Int32) (men : Int32) (f : Nat → Int32) (G : Nat → Int32) (cx : Int) (p1 : Int32) (p2 : Int32) (sz : Nat) (hT : ty_V ct S ph ws) (hph : ty_C ph xx) (hy1 : ty_y1 xx) (hR : rf_R G cx f) : Met l yX11_repeats (ws_ yX11_repeats cX11_repeats 4 (some .int)) ({ frames := 2, cells := 0, slots := 0, locals := 46 } : Room) (va_Pc [.ref mo, .int p1, .int p2] (cmP D ct sz ([(rf_MO mo mw ma mf m0 m1 mu mv u0 u1 iz th mb mn mpt mbg mwr mwk mlf men), (rf_RW ct 0 mw 958 f)] ++ ws))) (va_Qi (fun (r : Int32) (u : va_W × Int32) => match u with | (u9, th1) => ty_V ct S ph u9 ∧ (q_X11_repeats f G p1 p2 r th1)) (cmB D ([(rf_MO mo mw ma mf m0 m1 mu mv u0 u1 iz th mb mn mpt mbg mwr mwk mlf men), (rf_RW ct 0 mw 958 f)] ++ ws) sz (fun (u : va_W × Int32) => match u with | (u9, th1) => ([(rf_MO mo mw ma mf m0 m1 mu mv u0 u1 iz th1 mb mn mpt mbg mwr mwk mlf men), (rf_RW ct 0 mw 958 f)] ++ u9))) (va_A ([(rf_MO mo mw ma mf m0 m1 mu mv u0 u1 iz th mb mn mpt mbg mwr mwk mlf men), (rf_RW ct 0 mw 958 f)] ++ ws) sz)) 0 0 (va_A ([(rf_MO mo mw ma mf m0 m1 mu mv u0 u1 iz th mb mn mpt mbg mwr mwk mlf men), (rf_RW ct 0 mw 958 f)] ++ ws) sz) := by
  refine Met.ofW (cc := cX11_repeats) (maxL := 4) (ret := (some .int)) (by decide) rfl ?_
  intro p e s m args below meth c s₁ B hml hv
  obtain ⟨rfl, hsz, hP, hK, hD0, hX⟩ := hv
  have hx := B.exec
  have hb := B.bytes
  have hr := B.returns
  have hts := ws_all (atoms_spec (ws := ws_ yX11_repeats cX11_repeats 4 (some .int)) B.pre)
  have hown : s.vm.findClass RX11 = some m.cls := findClass_of_methodNamed B.named
  have hlocks := B.notSynchronized
  subst hsz
  have hD := hD0.self (sz := s.heap.size)
  generalize hAe : va_A ([(rf_MO mo mw ma mf m0 m1 mu mv u0 u1 iz th mb mn mpt mbg mwr mwk mlf men), (rf_RW ct 0 mw 958 f)] ++ ws) s.heap.size = A at hD hX ⊢
  have hA : ∀ q : Nat, s.heap.size ≤ q → A q := fun q h => by rw [← hAe]; exact Or.inr h
  have hS : va_S A s.heap s.heap [] := va_S.rf
  have hl := lv_entry ([.ref mo, .int p1, .int p2]) (n := 4) (Nat.le_of_ble_eq_true rfl)
  rw [lg_entry_eq]
  generalize (lg_sl ([.ref mo, .int p1, .int p2]) ++ List.replicate (4 - (lg_sl ([.ref mo, .int p1, .int p2])).length) Slot.unset).toArray = ls at hl ⊢
  have hl : lv_has ls 4 [(0, .ref mo), (1, .int p1), (2, .int p2)] := hl
  refine lv_aload_n hx hb dX11_repeats_0 rfl (lv_at hl 0 rfl) ?_
  refine lv_iload_n hx hb dX11_repeats_1 rfl (lv_at hl 1 rfl) ?_
  obtain ⟨hP, hD⟩ := ty_ipPD (E1 := []) (E2 := [(rf_MO mo mw ma mf m0 m1 mu mv u0 u1 iz th mb mn mpt mbg mwr mwk mlf men), (rf_RW ct 0 mw 958 f)]) hP hD rfl ty_mva
  refine ty_Ki hP hD hS hA (va_runV (As := [.int p1]) (rest := []) ⟨hx, hb, hml, hown, hts⟩ (m_X11_noChannel l D ct S ws ph xx mo mw ma mf m0 m1 mu mv u0 u1 iz mb th mn mpt mbg mwr mwk mlf men f G cx p1 _ hT hph hy1 hR) (cm_V 1 hts kc_X11_noChannel ki_RX11 kl_RX11_344 kv_X11_noChannel kx_X11_noChannel kd_X11_noChannel ⟨Nat.le_of_ble_eq_true rfl, Nat.le_of_ble_eq_true rfl⟩) (ty_preE (ci := 11) (q0 := 0) hP hK hD hS hA hX rfl rfl) rfl rfl hl.1 rfl (lv_room (Nat.le_of_ble_eq_true rfl)) dX11_repeats_2 ⟨Nat.le_of_ble_eq_true rfl, Nat.le_of_ble_eq_true rfl⟩) (fun r_1 u H locs hw_2 hP hD hS => ?_)
  obtain ⟨ws_3, th1_4⟩ := u
  obtain ⟨hT, hp_5⟩ := hw_2
  have hp_5 : ((r_1 = 0 ∧ (0 ≤ p1.toInt ∧ p1.toInt < (G 9).toInt) ∧ th1_4 = 0) ∨ (r_1 = 1 ∧ ¬ (0 ≤ p1.toInt ∧ p1.toInt < (G 9).toInt) ∧ th1_4 = 1)) := hp_5
  obtain ⟨hP, hD⟩ := ty_shPD (w2 := ([(rf_MO mo mw ma mf m0 m1 mu mv u0 u1 iz th1_4 mb mn mpt mbg mwr mwk mlf men), (rf_RW ct 0 mw 958 f)] ++ ws_3)) hP hD rfl
  rcases hp_5 with ⟨rfl, hz_6⟩ | ⟨rfl, hz_7⟩
  · have he_8 := hz_6.2
    have hP : va_P D vwCl ([(rf_MO mo mw ma mf m0 m1 mu mv u0 u1 iz (0) mb mn mpt mbg mwr mwk mlf men), (rf_RW ct 0 mw 958 f)] ++ ws_3) H := by rw [he_8] at hP; exact hP
    have hD : va_D A ([(rf_MO mo mw ma mf m0 m1 mu mv u0 u1 iz (0) mb mn mpt mbg mwr mwk mlf men), (rf_RW ct 0 mw 958 f)] ++ ws_3) := by rw [he_8] at hD; exact hD
    refine lv_if_eq (tgt := 10) hx hb dX11_repeats_5 (by decide) (fun _ => ?_) (fun hc => absurd (by decide) hc)
    refine lv_aload_n hx hb dX11_repeats_10 rfl (lv_at hl 0 rfl) ?_
    refine lv_iload_n hx hb dX11_repeats_11 rfl (lv_at hl 1 rfl) ?_
    refine lv_iconst (v := 1) hx hb dX11_repeats_12 (by decide) ?_
    obtain ⟨hP, hD⟩ := ty_ipPD (E1 := []) (E2 := [(rf_MO mo mw ma mf m0 m1 mu mv u0 u1 iz (0) mb mn mpt mbg mwr mwk mlf men), (rf_RW ct 0 mw 958 f)]) hP hD rfl ty_mva
    refine ty_Ki hP hD hS hA (va_runV (As := [.int p1, .int 1]) (rest := []) ⟨hx, hb, hml, hown, hts⟩ (m_of_1 l D ct S ws_3 ph xx mo mw ma mf m0 m1 mu mv u0 u1 iz mb (0 : Int32) mn mpt mbg mwr mwk mlf men f G cx p1 _ hT hph hy1 hR hz_6.1) (cm_V 2 hts kc_X11_of ki_RX11 kl_RX11_209 kv_X11_of kx_X11_of kd_X11_of ⟨Nat.le_of_ble_eq_true rfl, Nat.le_of_ble_eq_true rfl⟩) (ty_preE (ci := 11) (q0 := 0) hP hK hD hS hA hX rfl rfl) rfl rfl hl.1 rfl (lv_room (Nat.le_of_ble_eq_true rfl)) dX11_repeats_13 ⟨Nat.le_of_ble_eq_true rfl, Nat.le_of_ble_eq_true rfl⟩) (fun r_9 u H locs hw_10 hP hD hS => ?_)
    obtain ⟨ws_11, rfl⟩ : ∃ z, z = u := ⟨_, rfl⟩
    obtain ⟨hT, rfl⟩ := hw_10
    obtain ⟨hP, hD⟩ := ty_shPD (w2 := ([(rf_MO mo mw ma mf m0 m1 mu mv u0 u1 iz (0) mb mn mpt mbg mwr mwk mlf men), (rf_RW ct 0 mw 958 f)] ++ ws_11)) hP hD rfl
    refine lv_istore_n (lv' := [(3, .int (rf_of f p1 1)), (0, .ref mo), (1, .int p1), (2, .int p2)]) hx hb dX11_repeats_16 rfl hl (by decide) rfl (fun ls hl => ?_)
    refine lv_iload_n hx hb dX11_repeats_17 rfl (lv_at hl 0 rfl) ?_
    refine lv_iconst (v := (-1)) hx hb dX11_repeats_18 (by decide) ?_
    refine lv_icmp_eq (tgt := 51) hx hb dX11_repeats_19 (by decide) (fun hc_12 => ?_) (fun hc_12 => ?_)
    · refine lv_iconst (v := 0) hx hb dX11_repeats_51 (by decide) ?_
      exact W.iret (v := 0) hx hb hr (fun t ht hW => ⟨⟨0, (ws_11, (0 : Int32)), rfl, ⟨hT, ⟨th1_4, trivial, (Or.inl ⟨hz_6, (Or.inl ⟨hc_12, ⟨rfl, rfl⟩⟩)⟩)⟩⟩, by rw [ht]; exact hP, by rw [hAe]; exact hD⟩, hS.F ht⟩) hS.2.2 dX11_repeats_52
    · refine lv_iload_n hx hb dX11_repeats_22 rfl (lv_at hl 3 rfl) ?_
      refine lv_i2l hx hb dX11_repeats_23 rfl ?_
      refine lv_lconst (v := 0) hx hb dX11_repeats_24 (by decide) ?_
      refine lv_aload_n hx hb dX11_repeats_25 rfl (lv_at hl 1 rfl) ?_
      refine lv_iload_n hx hb dX11_repeats_26 rfl (lv_at hl 0 rfl) ?_
      obtain ⟨hP, hD⟩ := ty_ipPD (E1 := []) (E2 := [(rf_MO mo mw ma mf m0 m1 mu mv u0 u1 iz (0) mb mn mpt mbg mwr mwk mlf men), (rf_RW ct 0 mw 958 f)]) hP hD rfl ty_mva
      refine ty_Ki hP hD hS hA (va_runV (As := [.int (rf_of f p1 1)]) (rest := [.long 0, .long p2.toInt64]) ⟨hx, hb, hml, hown, hts⟩ (m_X11_stepsOf l D ct S ws_11 ph xx mo mw ma mf m0 m1 mu mv u0 u1 iz mb (0 : Int32) mn mpt mbg mwr mwk mlf men f G cx (rf_of f p1 1) _ hT hph hy1 hR (rf_p4 hR (rf_pg hR hz_6.1 hc_12))) (cm_V 1 hts kc_X11_stepsOf ki_RX11 kl_RX11_276 kv_X11_stepsOf kx_X11_stepsOf kd_X11_stepsOf ⟨Nat.le_of_ble_eq_true rfl, Nat.le_of_ble_eq_true rfl⟩) (ty_preE (ci := 11) (q0 := 0) hP hK hD hS hA hX rfl rfl) rfl rfl hl.1 rfl (lv_room (Nat.le_of_ble_eq_true rfl)) dX11_repeats_27 ⟨Nat.le_of_ble_eq_true rfl, Nat.le_of_ble_eq_true rfl⟩) (fun r_13 u H locs hw_14 hP hD hS => ?_)
      obtain ⟨ws_15, rfl⟩ : ∃ z, z = u := ⟨_, rfl⟩
      obtain ⟨hT, rfl⟩ := hw_14
      obtain ⟨hP, hD⟩ := ty_shPD (w2 := ([(rf_MO mo mw ma mf m0 m1 mu mv u0 u1 iz (0) mb mn mpt mbg mwr mwk mlf men), (rf_RW ct 0 mw 958 f)] ++ ws_15)) hP hD rfl
      refine lv_iconst (v := 1) hx hb dX11_repeats_30 (by decide) ?_
      refine lv_isub hx hb dX11_repeats_31 ?_
      refine lv_i2l hx hb dX11_repeats_32 rfl ?_
      obtain ⟨hP, hD⟩ := ty_ipPD (E1 := [(rf_MO mo mw ma mf m0 m1 mu mv u0 u1 iz (0) mb mn mpt mbg mwr mwk mlf men), (rf_RW ct 0 mw 958 f)]) (E2 := []) hP hD rfl ty_mva
      refine ty_Ki hP hD hS hA (va_runS (As := [.long p2.toInt64, .long 0, .long (((f (96 + 37 * (rf_of f p1 1).toInt.toNat)) - 1).toInt64)]) (rest := []) ⟨hx, hb, hml, hown, hts⟩ (m_X11_in l D ct S ws_15 ph xx p2.toInt64 (0 : Int64) (((f (96 + 37 * (rf_of f p1 1).toInt.toNat)) - 1).toInt64) _ hT hph hy1) (cm_S 3 hts kc_X11_in ki_RX11 kl_RX11_70 ks_X11_in kd_X11_in ⟨Nat.le_of_ble_eq_true rfl, Nat.le_of_ble_eq_true rfl⟩) (ty_preS hP hK hD hS hA hX) rfl rfl hl.1 rfl (lv_room (Nat.le_of_ble_eq_true rfl)) dX11_repeats_33 ⟨Nat.le_of_ble_eq_true rfl, Nat.le_of_ble_eq_true rfl⟩) (fun r_16 u H locs hw_17 hP hD hS => ?_)
      obtain ⟨ws_18, rfl⟩ : ∃ z, z = u := ⟨_, rfl⟩
      obtain ⟨hT, rfl⟩ := hw_17
      obtain ⟨hP, hD⟩ := ty_shPD (w2 := ([(rf_MO mo mw ma mf m0 m1 mu mv u0 u1 iz (0) mb mn mpt mbg mwr mwk mlf men), (rf_RW ct 0 mw 958 f)] ++ ws_18)) hP hD rfl
      refine lv_if_eq (tgt := 51) hx hb dX11_repeats_36 (by decide) (fun hc_19 => ?_) (fun hc_19 => ?_)
      · refine lv_iconst (v := 0) hx hb dX11_repeats_51 (by decide) ?_
        exact W.iret (v := 0) hx hb hr (fun t ht hW => ⟨⟨0, (ws_18, (0 : Int32)), rfl, ⟨hT, ⟨th1_4, trivial, (Or.inl ⟨hz_6, (Or.inr ⟨hc_12, (Or.inl ⟨hc_19, ⟨rfl, rfl⟩⟩)⟩)⟩)⟩⟩, by rw [ht]; exact hP, by rw [hAe]; exact hD⟩, hS.F ht⟩) hS.2.2 dX11_repeats_52
      · refine lv_aload_n hx hb dX11_repeats_39 rfl (lv_at hl 1 rfl) ?_
        refine lv_iload_n hx hb dX11_repeats_40 rfl (lv_at hl 2 rfl) ?_
        refine lv_bipush (v := 24) hx hb dX11_repeats_41 (by decide) ?_
        refine lv_iload_n hx hb dX11_repeats_43 rfl (lv_at hl 3 rfl) ?_
        refine lv_iadd hx hb dX11_repeats_44 ?_
        obtain ⟨hP, hD⟩ := ty_ipPD (E1 := []) (E2 := [(rf_MO mo mw ma mf m0 m1 mu mv u0 u1 iz (0) mb mn mpt mbg mwr mwk mlf men), (rf_RW ct 0 mw 958 f)]) hP hD rfl ty_mva
        refine ty_Ki hP hD hS hA (va_runV (As := [.int p1, .int (24 + p2)]) (rest := []) ⟨hx, hb, hml, hown, hts⟩ (m_of_v l D ct S ws_18 ph xx mo mw ma mf m0 m1 mu mv u0 u1 iz mb (0 : Int32) mn mpt mbg mwr mwk mlf men f G cx p1 (24 + p2) _ hT hph hy1 hR hz_6.1 (by have := rf_psn hR (rf_pg hR hz_6.1 hc_12); have := rf_rngi (L := 0) (by decide) (by omega) (rf_ne0 hc_19); have := rf_ty (y := p2) (by omega); omega)) (cm_V 2 hts kc_X11_of ki_RX11 kl_RX11_209 kv_X11_of kx_X11_of kd_X11_of ⟨Nat.le_of_ble_eq_true rfl, Nat.le_of_ble_eq_true rfl⟩) (ty_preE (ci := 11) (q0 := 0) hP hK hD hS hA hX rfl rfl) rfl rfl hl.1 rfl (lv_room (Nat.le_of_ble_eq_true rfl)) dX11_repeats_45 ⟨Nat.le_of_ble_eq_true rfl, Nat.le_of_ble_eq_true rfl⟩) (fun r_20 u H locs hw_21 hP hD hS => ?_)
        obtain ⟨ws_22, rfl⟩ : ∃ z, z = u := ⟨_, rfl⟩
        obtain ⟨hT, rfl⟩ := hw_21
        obtain ⟨hP, hD⟩ := ty_shPD (w2 := ([(rf_MO mo mw ma mf m0 m1 mu mv u0 u1 iz (0) mb mn mpt mbg mwr mwk mlf men), (rf_RW ct 0 mw 958 f)] ++ ws_22)) hP hD rfl
        refine lv_goto (tgt := 52) hx hb dX11_repeats_48 (by decide) ?_
        exact W.iret (v := (rf_of f p1 (24 + p2).toInt.toNat)) hx hb hr (fun t ht hW => ⟨⟨(rf_of f p1 (24 + p2).toInt.toNat), (ws_22, (0 : Int32)), rfl, ⟨hT, ⟨th1_4, trivial, (Or.inl ⟨hz_6, (Or.inr ⟨hc_12, (Or.inr ⟨hc_19, ⟨rfl, rfl⟩⟩)⟩)⟩)⟩⟩, by rw [ht]; exact hP, by rw [hAe]; exact hD⟩, hS.F ht⟩) hS.2.2 dX11_repeats_52
  · have he_23 := hz_7.2
    have hP : va_P D vwCl ([(rf_MO mo mw ma mf m0 m1 mu mv u0 u1 iz (1) mb mn mpt mbg mwr mwk mlf men), (rf_RW ct 0 mw 958 f)] ++ ws_3) H := by rw [he_23] at hP; exact hP
    have hD : va_D A ([(rf_MO mo mw ma mf m0 m1 mu mv u0 u1 iz (1) mb mn mpt mbg mwr mwk mlf men), (rf_RW ct 0 mw 958 f)] ++ ws_3) := by rw [he_23] at hD; exact hD
    refine lv_if_eq (tgt := 10) hx hb dX11_repeats_5 (by decide) (fun hc => absurd hc (by decide)) (fun _ => ?_)
    refine lv_iconst (v := 0) hx hb dX11_repeats_8 (by decide) ?_
    exact W.iret (v := 0) hx hb hr (fun t ht hW => ⟨⟨0, (ws_3, (1 : Int32)), rfl, ⟨hT, ⟨th1_4, trivial, (Or.inr ⟨hz_7, ⟨rfl, rfl⟩⟩)⟩⟩, by rw [ht]; exact hP, by rw [hAe]; exact hD⟩, hS.F ht⟩) hS.2.2 dX11_repeats_9
def q_X11_ledger (f : Nat → Int32) (G : Nat → Int32) (su : Nat → Int64) (p1 : Int32) (p2 : Int32) (r : Int64) (th1 : Int32) : Prop := (∃ (th1_4 : Int32), True ∧ ((((0 ≤ p1.toInt ∧ p1.toInt < (G 9).toInt) ∧ th1_4 = 0) ∧ ((¬ (cm_rng p2.toInt64 0 4) = (0 : Int32) ∧ (∃ (th1_16 : Int32), True ∧ (((0 : Int32) = 0 ∧ th1_16 = 0) ∧ ((¬ p2 = (2 : Int32) ∧ (((2 : Int32) ≤ p2 ∧ (∃ (r_23 : Int64), (q_X11_sum su p1 (p2 - 1) r_23) ∧ (r = r_23 ∧ th1 = 0))) ∨ (¬ (2 : Int32) ≤ p2 ∧ (∃ (r_29 : Int64), (q_X11_sum su p1 p2 r_29) ∧ (r = r_29 ∧ th1 = 0))))) ∨ (p2 = (2 : Int32) ∧ (r = (rf_of f p1 18).toInt64 ∧ th1 = 0)))))) ∨ ((cm_rng p2.toInt64 0 4) = (0 : Int32) ∧ (∃ (th1_41 : Int32), True ∧ ((¬ (1 : Int32) = 0 ∧ th1_41 = (2 : Int32)) ∧ (r = 0 ∧ th1 = 2)))))) ∨ ((¬ (0 ≤ p1.toInt ∧ p1.toInt < (G 9).toInt) ∧ th1_4 = 1) ∧ (r = 0 ∧ th1 = 1))))
set_option maxRecDepth 100000 in
set_option maxHeartbeats 4000000 in
theorem m_X11_ledger (l : Launch) (D : va_G) (ct : Nat → ClassId) (S : ty_S) (ws : va_W) (ph : va_W → Prop) (xx : Nat → Nat → Nat → Prop) (mo : Nat) (mw : Nat) (ma : Nat) (mf : Nat) (m0 : Nat) (m1 : Nat) (mu : Nat) (mv : Nat) (u0 : Nat) (u1 : Nat) (iz : Nat) (mb : Nat) (th : Int32) (mn : Int32) (mpt : Int32) (mbg : Int32) (mwr : Int32) (mwk : Int32) (mlf : Int32) (men : Int32) (f : Nat → Int32) (G : Nat → Int32) (cx : Int) (su : Nat → Int64) (p1 : Int32) (p2 : Int32) (sz : Nat) (hT : ty_V ct S ph ws) (hph : ty_C ph xx) (hy1 : ty_y1 xx) (hR : rf_R G cx f) : Met l yX11_ledger (ws_ yX11_ledger cX11_ledger 3 (some .long)) ({ frames := 2, cells := 0, slots := 0, locals := 46 } : Room) (va_Pc [.ref mo, .int p1, .int p2] (cmP D ct sz ([(rf_MO mo mw ma mf m0 m1 mu mv u0 u1 iz th mb mn mpt mbg mwr mwk mlf men), (rf_RW ct 0 mw 958 f), (mu, .inl (ct 1, 42, .inr (.inl su)))] ++ ws))) (va_Ql (fun (r : Int64) (u : va_W × Int32) => match u with | (u9, th1) => ty_V ct S ph u9 ∧ (q_X11_ledger f G su p1 p2 r th1)) (cmB D ([(rf_MO mo mw ma mf m0 m1 mu mv u0 u1 iz th mb mn mpt mbg mwr mwk mlf men), (rf_RW ct 0 mw 958 f), (mu, .inl (ct 1, 42, .inr (.inl su)))] ++ ws) sz (fun (u : va_W × Int32) => match u with | (u9, th1) => ([(rf_MO mo mw ma mf m0 m1 mu mv u0 u1 iz th1 mb mn mpt mbg mwr mwk mlf men), (rf_RW ct 0 mw 958 f), (mu, .inl (ct 1, 42, .inr (.inl su)))] ++ u9))) (va_A ([(rf_MO mo mw ma mf m0 m1 mu mv u0 u1 iz th mb mn mpt mbg mwr mwk mlf men), (rf_RW ct 0 mw 958 f), (mu, .inl (ct 1, 42, .inr (.inl su)))] ++ ws) sz)) 0 0 (va_A ([(rf_MO mo mw ma mf m0 m1 mu mv u0 u1 iz th mb mn mpt mbg mwr mwk mlf men), (rf_RW ct 0 mw 958 f), (mu, .inl (ct 1, 42, .inr (.inl su)))] ++ ws) sz) := by
  refine Met.ofW (cc := cX11_ledger) (maxL := 3) (ret := (some .long)) (by decide) rfl ?_
  intro p e s m args below meth c s₁ B hml hv
  obtain ⟨rfl, hsz, hP, hK, hD0, hX⟩ := hv
  have hx := B.exec
  have hb := B.bytes
  have hr := B.returns
  have hts := ws_all (atoms_spec (ws := ws_ yX11_ledger cX11_ledger 3 (some .long)) B.pre)
  have hown : s.vm.findClass RX11 = some m.cls := findClass_of_methodNamed B.named
  have hlocks := B.notSynchronized
  subst hsz
  have hD := hD0.self (sz := s.heap.size)
  generalize hAe : va_A ([(rf_MO mo mw ma mf m0 m1 mu mv u0 u1 iz th mb mn mpt mbg mwr mwk mlf men), (rf_RW ct 0 mw 958 f), (mu, .inl (ct 1, 42, .inr (.inl su)))] ++ ws) s.heap.size = A at hD hX ⊢
  have hA : ∀ q : Nat, s.heap.size ≤ q → A q := fun q h => by rw [← hAe]; exact Or.inr h
  have hS : va_S A s.heap s.heap [] := va_S.rf
  have hl := lv_entry ([.ref mo, .int p1, .int p2]) (n := 3) (Nat.le_of_ble_eq_true rfl)
  rw [lg_entry_eq]
  generalize (lg_sl ([.ref mo, .int p1, .int p2]) ++ List.replicate (3 - (lg_sl ([.ref mo, .int p1, .int p2])).length) Slot.unset).toArray = ls at hl ⊢
  have hl : lv_has ls 3 [(0, .ref mo), (1, .int p1), (2, .int p2)] := hl
  refine lv_aload_n hx hb dX11_ledger_0 rfl (lv_at hl 0 rfl) ?_
  refine lv_iload_n hx hb dX11_ledger_1 rfl (lv_at hl 1 rfl) ?_
  obtain ⟨hP, hD⟩ := ty_opPD (E1 := [(mu, .inl (ct 1, 42, .inr (.inl su)))]) (E2 := [(rf_MO mo mw ma mf m0 m1 mu mv u0 u1 iz th mb mn mpt mbg mwr mwk mlf men), (rf_RW ct 0 mw 958 f)]) (n := 3) [2, 0, 1] hP hD rfl rfl (by decide +kernel) ty_mva
  refine ty_Ki hP hD hS hA (va_runV (As := [.int p1]) (rest := []) ⟨hx, hb, hml, hown, hts⟩ (m_X11_noChannel l D ct S ws ph xx mo mw ma mf m0 m1 mu mv u0 u1 iz mb th mn mpt mbg mwr mwk mlf men f G cx p1 _ hT hph hy1 hR) (cm_V 1 hts kc_X11_noChannel ki_RX11 kl_RX11_344 kv_X11_noChannel kx_X11_noChannel kd_X11_noChannel ⟨Nat.le_of_ble_eq_true rfl, Nat.le_of_ble_eq_true rfl⟩) (ty_preE (ci := 11) (q0 := 1) hP hK hD hS hA hX rfl rfl) rfl rfl hl.1 rfl (lv_room (Nat.le_of_ble_eq_true rfl)) dX11_ledger_2 ⟨Nat.le_of_ble_eq_true rfl, Nat.le_of_ble_eq_true rfl⟩) (fun r_1 u H locs hw_2 hP hD hS => ?_)
  obtain ⟨ws_3, th1_4⟩ := u
  obtain ⟨hT, hp_5⟩ := hw_2
  have hp_5 : ((r_1 = 0 ∧ (0 ≤ p1.toInt ∧ p1.toInt < (G 9).toInt) ∧ th1_4 = 0) ∨ (r_1 = 1 ∧ ¬ (0 ≤ p1.toInt ∧ p1.toInt < (G 9).toInt) ∧ th1_4 = 1)) := hp_5
  obtain ⟨hP, hD⟩ := ty_shPD (w2 := ([(mu, .inl (ct 1, 42, .inr (.inl su))), (rf_MO mo mw ma mf m0 m1 mu mv u0 u1 iz th1_4 mb mn mpt mbg mwr mwk mlf men), (rf_RW ct 0 mw 958 f)] ++ ws_3)) hP hD rfl
  rcases hp_5 with ⟨rfl, hz_6⟩ | ⟨rfl, hz_7⟩
  · have he_8 := hz_6.2
    have hP : va_P D vwCl ([(mu, .inl (ct 1, 42, .inr (.inl su))), (rf_MO mo mw ma mf m0 m1 mu mv u0 u1 iz (0) mb mn mpt mbg mwr mwk mlf men), (rf_RW ct 0 mw 958 f)] ++ ws_3) H := by rw [he_8] at hP; exact hP
    have hD : va_D A ([(mu, .inl (ct 1, 42, .inr (.inl su))), (rf_MO mo mw ma mf m0 m1 mu mv u0 u1 iz (0) mb mn mpt mbg mwr mwk mlf men), (rf_RW ct 0 mw 958 f)] ++ ws_3) := by rw [he_8] at hD; exact hD
    refine lv_if_ne (tgt := 33) hx hb dX11_ledger_5 (by decide) (fun hc => absurd (by decide) hc) (fun _ => ?_)
    refine lv_aload_n hx hb dX11_ledger_8 rfl (lv_at hl 0 rfl) ?_
    refine lv_iload_n hx hb dX11_ledger_9 rfl (lv_at hl 2 rfl) ?_
    refine lv_i2l hx hb dX11_ledger_10 rfl ?_
    refine lv_lconst (v := 0) hx hb dX11_ledger_11 (by decide) ?_
    refine lv_ldc2 hx hb hown (hts _ kl_RX11_364) dX11_ledger_12 ?_
    obtain ⟨hP, hD⟩ := ty_ipPD (E1 := [(mu, .inl (ct 1, 42, .inr (.inl su))), (rf_MO mo mw ma mf m0 m1 mu mv u0 u1 iz (0) mb mn mpt mbg mwr mwk mlf men), (rf_RW ct 0 mw 958 f)]) (E2 := []) hP hD rfl ty_mva
    refine ty_Ki hP hD hS hA (va_runS (As := [.long p2.toInt64, .long 0, .long 4]) (rest := [.ref mo]) ⟨hx, hb, hml, hown, hts⟩ (m_X11_in l D ct S ws_3 ph xx p2.toInt64 (0 : Int64) (4 : Int64) _ hT hph hy1) (cm_S 3 hts kc_X11_in ki_RX11 kl_RX11_70 ks_X11_in kd_X11_in ⟨Nat.le_of_ble_eq_true rfl, Nat.le_of_ble_eq_true rfl⟩) (ty_preS hP hK hD hS hA hX) rfl rfl hl.1 rfl (lv_room (Nat.le_of_ble_eq_true rfl)) dX11_ledger_15 ⟨Nat.le_of_ble_eq_true rfl, Nat.le_of_ble_eq_true rfl⟩) (fun r_9 u H locs hw_10 hP hD hS => ?_)
    obtain ⟨ws_11, rfl⟩ : ∃ z, z = u := ⟨_, rfl⟩
    obtain ⟨hT, rfl⟩ := hw_10
    obtain ⟨hP, hD⟩ := ty_shPD (w2 := ([(mu, .inl (ct 1, 42, .inr (.inl su))), (rf_MO mo mw ma mf m0 m1 mu mv u0 u1 iz (0) mb mn mpt mbg mwr mwk mlf men), (rf_RW ct 0 mw 958 f)] ++ ws_11)) hP hD rfl
    refine lv_if_ne (tgt := 25) hx hb dX11_ledger_18 (by decide) (fun hc_12 => ?_) (fun hc_12 => ?_)
    · refine lv_iconst (v := 0) hx hb dX11_ledger_25 (by decide) ?_
      refine lv_iconst (v := 2) hx hb dX11_ledger_26 (by decide) ?_
      obtain ⟨hP, hD⟩ := ty_opPD (E1 := [(mu, .inl (ct 1, 42, .inr (.inl su))), (rf_RW ct 0 mw 958 f)]) (E2 := [(rf_MO mo mw ma mf m0 m1 mu mv u0 u1 iz (0) mb mn mpt mbg mwr mwk mlf men)]) (n := 3) [0, 2, 1] hP hD rfl rfl (by decide +kernel) ty_mva
      refine ty_Ki hP hD hS hA (va_runV (As := [.int 0, .int 2]) (rest := []) ⟨hx, hb, hml, hown, hts⟩ (m_throwsIf_0 l D ct S ws_11 ph xx mo mw ma mf m0 m1 mu mv u0 u1 iz mb mn mpt mbg mwr mwk mlf men (0 : Int32) (2 : Int32) _ hT hph hy1 (by decide)) (cm_V 2 hts kc_X11_throwsIf ki_RX11 kl_RX11_328 kv_X11_throwsIf kx_X11_throwsIf kd_X11_throwsIf ⟨Nat.le_of_ble_eq_true rfl, Nat.le_of_ble_eq_true rfl⟩) (ty_preE (ci := 11) (q0 := 2) hP hK hD hS hA hX rfl rfl) rfl rfl hl.1 rfl (lv_room (Nat.le_of_ble_eq_true rfl)) dX11_ledger_27 ⟨Nat.le_of_ble_eq_true rfl, Nat.le_of_ble_eq_true rfl⟩) (fun r_13 u H locs hw_14 hP hD hS => ?_)
      obtain ⟨ws_15, th1_16⟩ := u
      obtain ⟨hT, hp_17⟩ := hw_14
      have hp_17 : ((r_13 = 0 ∧ (0 : Int32) = 0 ∧ th1_16 = 0) ∨ (r_13 = 1 ∧ ¬ (0 : Int32) = 0 ∧ th1_16 = (2 : Int32))) := hp_17
      obtain ⟨hP, hD⟩ := ty_shPD (w2 := ([(mu, .inl (ct 1, 42, .inr (.inl su))), (rf_RW ct 0 mw 958 f), (rf_MO mo mw ma mf m0 m1 mu mv u0 u1 iz th1_16 mb mn mpt mbg mwr mwk mlf men)] ++ ws_15)) hP hD rfl
      rcases hp_17 with ⟨rfl, hz_18⟩ | ⟨rfl, hz_19⟩
      · have he_20 := hz_18.2
        have hP : va_P D vwCl ([(mu, .inl (ct 1, 42, .inr (.inl su))), (rf_RW ct 0 mw 958 f), (rf_MO mo mw ma mf m0 m1 mu mv u0 u1 iz (0) mb mn mpt mbg mwr mwk mlf men)] ++ ws_15) H := by rw [he_20] at hP; exact hP
        have hD : va_D A ([(mu, .inl (ct 1, 42, .inr (.inl su))), (rf_RW ct 0 mw 958 f), (rf_MO mo mw ma mf m0 m1 mu mv u0 u1 iz (0) mb mn mpt mbg mwr mwk mlf men)] ++ ws_15) := by rw [he_20] at hD; exact hD
        refine lv_if_eq (tgt := 35) hx hb dX11_ledger_30 (by decide) (fun _ => ?_) (fun hc => absurd (by decide) hc)
        refine lv_iload_n hx hb dX11_ledger_35 rfl (lv_at hl 2 rfl) ?_
        refine lv_iconst (v := 2) hx hb dX11_ledger_36 (by decide) ?_
        refine lv_icmp_ne (tgt := 51) hx hb dX11_ledger_37 (by decide) (fun hc_21 => ?_) (fun hc_21 => ?_)
        · refine lv_aload_n hx hb dX11_ledger_51 rfl (lv_at hl 0 rfl) ?_
          refine lv_iload_n hx hb dX11_ledger_52 rfl (lv_at hl 1 rfl) ?_
          refine lv_iload_n hx hb dX11_ledger_53 rfl (lv_at hl 2 rfl) ?_
          refine lv_iconst (v := 2) hx hb dX11_ledger_54 (by decide) ?_
          refine lv_icmp_ge (tgt := 62) hx hb dX11_ledger_55 (by decide) (fun hc_22 => ?_) (fun hc_22 => ?_)
          · refine lv_iload_n hx hb dX11_ledger_62 rfl (lv_at hl 2 rfl) ?_
            refine lv_iconst (v := 1) hx hb dX11_ledger_63 (by decide) ?_
            refine lv_isub hx hb dX11_ledger_64 ?_
            obtain ⟨hP, hD⟩ := ty_opPD (E1 := [(rf_RW ct 0 mw 958 f)]) (E2 := [(rf_MO mo mw ma mf m0 m1 mu mv u0 u1 iz (0) mb mn mpt mbg mwr mwk mlf men), (mu, .inl (ct 1, 42, .inr (.inl su)))]) (n := 3) [1, 2, 0] hP hD rfl rfl (by decide +kernel) ty_mva
            refine ty_Kl hP hD hS hA (va_runV (As := [.int p1, .int (p2 - 1)]) (rest := []) ⟨hx, hb, hml, hown, hts⟩ (m_X11_sum l D ct S ws_15 ph xx mo mw ma mf m0 m1 mu mv u0 u1 iz mb (0 : Int32) mn mpt mbg mwr mwk mlf men su p1 (p2 - 1) _ hT hph hy1 (rf_c6 hR hz_6.1) (by have := (rf_rngc (L := 0) (U := 4) (by decide) (by decide) hc_12); have o : (1 : Int32).toInt = 1 := (by decide); have := rf_ge2 hc_22; have := rf_dec9 (x := p2) (a := 1) (b := 4) (by omega) (by omega); omega)) (cm_V 2 hts kc_X11_sum ki_RX11 kl_RX11_261 kv_X11_sum kx_X11_sum kd_X11_sum ⟨Nat.le_of_ble_eq_true rfl, Nat.le_of_ble_eq_true rfl⟩) (ty_preE (ci := 11) (q0 := 1) hP hK hD hS hA hX rfl rfl) rfl rfl hl.1 rfl (lv_room (Nat.le_of_ble_eq_true rfl)) dX11_ledger_65 ⟨Nat.le_of_ble_eq_true rfl, Nat.le_of_ble_eq_true rfl⟩) (fun r_23 u H locs hw_24 hP hD hS => ?_)
            obtain ⟨ws_25, rfl⟩ : ∃ z, z = u := ⟨_, rfl⟩
            obtain ⟨hT, hp_26⟩ := hw_24
            have hp_26 : (q_X11_sum su p1 (p2 - 1) r_23) := hp_26
            obtain ⟨hP, hD⟩ := ty_shPD (w2 := ([(rf_RW ct 0 mw 958 f), (rf_MO mo mw ma mf m0 m1 mu mv u0 u1 iz (0) mb mn mpt mbg mwr mwk mlf men), (mu, .inl (ct 1, 42, .inr (.inl su)))] ++ ws_25)) hP hD rfl
            obtain ⟨hP, hD⟩ := ty_ordPD (E2 := [(rf_MO mo mw ma mf m0 m1 mu mv u0 u1 iz (0) mb mn mpt mbg mwr mwk mlf men), (rf_RW ct 0 mw 958 f), (mu, .inl (ct 1, 42, .inr (.inl su)))]) (n := 3) [1, 0, 2] hP hD rfl rfl (by decide +kernel)
            exact W.lret (v := r_23) hx hb hr (fun t ht hW => ⟨⟨r_23, (ws_25, (0 : Int32)), rfl, ⟨hT, ⟨th1_4, trivial, (Or.inl ⟨hz_6, (Or.inl ⟨hc_12, ⟨th1_16, trivial, ⟨hz_18, (Or.inl ⟨hc_21, (Or.inl ⟨hc_22, ⟨r_23, hp_26, ⟨rfl, rfl⟩⟩⟩)⟩)⟩⟩⟩)⟩)⟩⟩, by rw [ht]; exact hP, by rw [hAe]; exact hD⟩, hS.F ht⟩) hS.2.2 dX11_ledger_68
          · refine lv_iload_n hx hb dX11_ledger_58 rfl (lv_at hl 2 rfl) ?_
            refine lv_goto (tgt := 65) hx hb dX11_ledger_59 (by decide) ?_
            obtain ⟨hP, hD⟩ := ty_opPD (E1 := [(rf_RW ct 0 mw 958 f)]) (E2 := [(rf_MO mo mw ma mf m0 m1 mu mv u0 u1 iz (0) mb mn mpt mbg mwr mwk mlf men), (mu, .inl (ct 1, 42, .inr (.inl su)))]) (n := 3) [1, 2, 0] hP hD rfl rfl (by decide +kernel) ty_mva
            refine ty_Kl hP hD hS hA (va_runV (As := [.int p1, .int p2]) (rest := []) ⟨hx, hb, hml, hown, hts⟩ (m_X11_sum l D ct S ws_15 ph xx mo mw ma mf m0 m1 mu mv u0 u1 iz mb (0 : Int32) mn mpt mbg mwr mwk mlf men su p1 p2 _ hT hph hy1 (rf_c6 hR hz_6.1) (by have := (rf_rngc (L := 0) (U := 4) (by decide) (by decide) hc_12); have := rf_ng (b := 2) (by decide) hc_22; omega)) (cm_V 2 hts kc_X11_sum ki_RX11 kl_RX11_261 kv_X11_sum kx_X11_sum kd_X11_sum ⟨Nat.le_of_ble_eq_true rfl, Nat.le_of_ble_eq_true rfl⟩) (ty_preE (ci := 11) (q0 := 1) hP hK hD hS hA hX rfl rfl) rfl rfl hl.1 rfl (lv_room (Nat.le_of_ble_eq_true rfl)) dX11_ledger_65 ⟨Nat.le_of_ble_eq_true rfl, Nat.le_of_ble_eq_true rfl⟩) (fun r_29 u H locs hw_30 hP hD hS => ?_)
            obtain ⟨ws_31, rfl⟩ : ∃ z, z = u := ⟨_, rfl⟩
            obtain ⟨hT, hp_32⟩ := hw_30
            have hp_32 : (q_X11_sum su p1 p2 r_29) := hp_32
            obtain ⟨hP, hD⟩ := ty_shPD (w2 := ([(rf_RW ct 0 mw 958 f), (rf_MO mo mw ma mf m0 m1 mu mv u0 u1 iz (0) mb mn mpt mbg mwr mwk mlf men), (mu, .inl (ct 1, 42, .inr (.inl su)))] ++ ws_31)) hP hD rfl
            obtain ⟨hP, hD⟩ := ty_ordPD (E2 := [(rf_MO mo mw ma mf m0 m1 mu mv u0 u1 iz (0) mb mn mpt mbg mwr mwk mlf men), (rf_RW ct 0 mw 958 f), (mu, .inl (ct 1, 42, .inr (.inl su)))]) (n := 3) [1, 0, 2] hP hD rfl rfl (by decide +kernel)
            exact W.lret (v := r_29) hx hb hr (fun t ht hW => ⟨⟨r_29, (ws_31, (0 : Int32)), rfl, ⟨hT, ⟨th1_4, trivial, (Or.inl ⟨hz_6, (Or.inl ⟨hc_12, ⟨th1_16, trivial, ⟨hz_18, (Or.inl ⟨hc_21, (Or.inr ⟨hc_22, ⟨r_29, hp_32, ⟨rfl, rfl⟩⟩⟩)⟩)⟩⟩⟩)⟩)⟩⟩, by rw [ht]; exact hP, by rw [hAe]; exact hD⟩, hS.F ht⟩) hS.2.2 dX11_ledger_68
        · refine lv_aload_n hx hb dX11_ledger_40 rfl (lv_at hl 0 rfl) ?_
          refine lv_iload_n hx hb dX11_ledger_41 rfl (lv_at hl 1 rfl) ?_
          refine lv_bipush (v := 18) hx hb dX11_ledger_42 (by decide) ?_
          obtain ⟨hP, hD⟩ := ty_opPD (E1 := [(mu, .inl (ct 1, 42, .inr (.inl su)))]) (E2 := [(rf_MO mo mw ma mf m0 m1 mu mv u0 u1 iz (0) mb mn mpt mbg mwr mwk mlf men), (rf_RW ct 0 mw 958 f)]) (n := 3) [0, 2, 1] hP hD rfl rfl (by decide +kernel) ty_mva
          refine ty_Ki hP hD hS hA (va_runV (As := [.int p1, .int 18]) (rest := []) ⟨hx, hb, hml, hown, hts⟩ (m_of_18 l D ct S ws_15 ph xx mo mw ma mf m0 m1 mu mv u0 u1 iz mb (0 : Int32) mn mpt mbg mwr mwk mlf men f G cx p1 _ hT hph hy1 hR hz_6.1) (cm_V 2 hts kc_X11_of ki_RX11 kl_RX11_209 kv_X11_of kx_X11_of kd_X11_of ⟨Nat.le_of_ble_eq_true rfl, Nat.le_of_ble_eq_true rfl⟩) (ty_preE (ci := 11) (q0 := 1) hP hK hD hS hA hX rfl rfl) rfl rfl hl.1 rfl (lv_room (Nat.le_of_ble_eq_true rfl)) dX11_ledger_44 ⟨Nat.le_of_ble_eq_true rfl, Nat.le_of_ble_eq_true rfl⟩) (fun r_35 u H locs hw_36 hP hD hS => ?_)
          obtain ⟨ws_37, rfl⟩ : ∃ z, z = u := ⟨_, rfl⟩
          obtain ⟨hT, rfl⟩ := hw_36
          obtain ⟨hP, hD⟩ := ty_shPD (w2 := ([(mu, .inl (ct 1, 42, .inr (.inl su))), (rf_MO mo mw ma mf m0 m1 mu mv u0 u1 iz (0) mb mn mpt mbg mwr mwk mlf men), (rf_RW ct 0 mw 958 f)] ++ ws_37)) hP hD rfl
          refine lv_i2l hx hb dX11_ledger_47 rfl ?_
          refine lv_goto (tgt := 68) hx hb dX11_ledger_48 (by decide) ?_
          obtain ⟨hP, hD⟩ := ty_ordPD (E2 := [(rf_MO mo mw ma mf m0 m1 mu mv u0 u1 iz (0) mb mn mpt mbg mwr mwk mlf men), (rf_RW ct 0 mw 958 f), (mu, .inl (ct 1, 42, .inr (.inl su)))]) (n := 3) [1, 2, 0] hP hD rfl rfl (by decide +kernel)
          exact W.lret (v := (rf_of f p1 18).toInt64) hx hb hr (fun t ht hW => ⟨⟨(rf_of f p1 18).toInt64, (ws_37, (0 : Int32)), rfl, ⟨hT, ⟨th1_4, trivial, (Or.inl ⟨hz_6, (Or.inl ⟨hc_12, ⟨th1_16, trivial, ⟨hz_18, (Or.inr ⟨hc_21, ⟨rfl, rfl⟩⟩)⟩⟩⟩)⟩)⟩⟩, by rw [ht]; exact hP, by rw [hAe]; exact hD⟩, hS.F ht⟩) hS.2.2 dX11_ledger_68
      · exact absurd rfl hz_19.1
    · refine lv_iconst (v := 1) hx hb dX11_ledger_21 (by decide) ?_
      refine lv_goto (tgt := 26) hx hb dX11_ledger_22 (by decide) ?_
      refine lv_iconst (v := 2) hx hb dX11_ledger_26 (by decide) ?_
      obtain ⟨hP, hD⟩ := ty_opPD (E1 := [(mu, .inl (ct 1, 42, .inr (.inl su))), (rf_RW ct 0 mw 958 f)]) (E2 := [(rf_MO mo mw ma mf m0 m1 mu mv u0 u1 iz (0) mb mn mpt mbg mwr mwk mlf men)]) (n := 3) [0, 2, 1] hP hD rfl rfl (by decide +kernel) ty_mva
      refine ty_Ki hP hD hS hA (va_runV (As := [.int 1, .int 2]) (rest := []) ⟨hx, hb, hml, hown, hts⟩ (m_throwsIf_0 l D ct S ws_11 ph xx mo mw ma mf m0 m1 mu mv u0 u1 iz mb mn mpt mbg mwr mwk mlf men (1 : Int32) (2 : Int32) _ hT hph hy1 (by decide)) (cm_V 2 hts kc_X11_throwsIf ki_RX11 kl_RX11_328 kv_X11_throwsIf kx_X11_throwsIf kd_X11_throwsIf ⟨Nat.le_of_ble_eq_true rfl, Nat.le_of_ble_eq_true rfl⟩) (ty_preE (ci := 11) (q0 := 2) hP hK hD hS hA hX rfl rfl) rfl rfl hl.1 rfl (lv_room (Nat.le_of_ble_eq_true rfl)) dX11_ledger_27 ⟨Nat.le_of_ble_eq_true rfl, Nat.le_of_ble_eq_true rfl⟩) (fun r_38 u H locs hw_39 hP hD hS => ?_)
      obtain ⟨ws_40, th1_41⟩ := u
      obtain ⟨hT, hp_42⟩ := hw_39
      have hp_42 : ((r_38 = 0 ∧ (1 : Int32) = 0 ∧ th1_41 = 0) ∨ (r_38 = 1 ∧ ¬ (1 : Int32) = 0 ∧ th1_41 = (2 : Int32))) := hp_42
      obtain ⟨hP, hD⟩ := ty_shPD (w2 := ([(mu, .inl (ct 1, 42, .inr (.inl su))), (rf_RW ct 0 mw 958 f), (rf_MO mo mw ma mf m0 m1 mu mv u0 u1 iz th1_41 mb mn mpt mbg mwr mwk mlf men)] ++ ws_40)) hP hD rfl
      rcases hp_42 with ⟨rfl, hz_43⟩ | ⟨rfl, hz_44⟩
      · exact absurd hz_43.1 (by decide)
      · have he_45 := hz_44.2
        have hP : va_P D vwCl ([(mu, .inl (ct 1, 42, .inr (.inl su))), (rf_RW ct 0 mw 958 f), (rf_MO mo mw ma mf m0 m1 mu mv u0 u1 iz (2) mb mn mpt mbg mwr mwk mlf men)] ++ ws_40) H := by rw [he_45] at hP; exact hP
        have hD : va_D A ([(mu, .inl (ct 1, 42, .inr (.inl su))), (rf_RW ct 0 mw 958 f), (rf_MO mo mw ma mf m0 m1 mu mv u0 u1 iz (2) mb mn mpt mbg mwr mwk mlf men)] ++ ws_40) := by rw [he_45] at hD; exact hD
        refine lv_if_eq (tgt := 35) hx hb dX11_ledger_30 (by decide) (fun hc => absurd hc (by decide)) (fun _ => ?_)
        refine lv_lconst (v := 0) hx hb dX11_ledger_33 (by decide) ?_
        obtain ⟨hP, hD⟩ := ty_ordPD (E2 := [(rf_MO mo mw ma mf m0 m1 mu mv u0 u1 iz (2) mb mn mpt mbg mwr mwk mlf men), (rf_RW ct 0 mw 958 f), (mu, .inl (ct 1, 42, .inr (.inl su)))]) (n := 3) [2, 1, 0] hP hD rfl rfl (by decide +kernel)
        exact W.lret (v := 0) hx hb hr (fun t ht hW => ⟨⟨0, (ws_40, (2 : Int32)), rfl, ⟨hT, ⟨th1_4, trivial, (Or.inl ⟨hz_6, (Or.inr ⟨hc_12, ⟨th1_41, trivial, ⟨hz_44, ⟨rfl, rfl⟩⟩⟩⟩)⟩)⟩⟩, by rw [ht]; exact hP, by rw [hAe]; exact hD⟩, hS.F ht⟩) hS.2.2 dX11_ledger_34
  · have he_46 := hz_7.2
    have hP : va_P D vwCl ([(mu, .inl (ct 1, 42, .inr (.inl su))), (rf_MO mo mw ma mf m0 m1 mu mv u0 u1 iz (1) mb mn mpt mbg mwr mwk mlf men), (rf_RW ct 0 mw 958 f)] ++ ws_3) H := by rw [he_46] at hP; exact hP
    have hD : va_D A ([(mu, .inl (ct 1, 42, .inr (.inl su))), (rf_MO mo mw ma mf m0 m1 mu mv u0 u1 iz (1) mb mn mpt mbg mwr mwk mlf men), (rf_RW ct 0 mw 958 f)] ++ ws_3) := by rw [he_46] at hD; exact hD
    refine lv_if_ne (tgt := 33) hx hb dX11_ledger_5 (by decide) (fun _ => ?_) (fun hc => absurd hc (by decide))
    refine lv_lconst (v := 0) hx hb dX11_ledger_33 (by decide) ?_
    obtain ⟨hP, hD⟩ := ty_ordPD (E2 := [(rf_MO mo mw ma mf m0 m1 mu mv u0 u1 iz (1) mb mn mpt mbg mwr mwk mlf men), (rf_RW ct 0 mw 958 f), (mu, .inl (ct 1, 42, .inr (.inl su)))]) (n := 3) [1, 2, 0] hP hD rfl rfl (by decide +kernel)
    exact W.lret (v := 0) hx hb hr (fun t ht hW => ⟨⟨0, (ws_3, (1 : Int32)), rfl, ⟨hT, ⟨th1_4, trivial, (Or.inr ⟨hz_7, ⟨rfl, rfl⟩⟩)⟩⟩, by rw [ht]; exact hP, by rw [hAe]; exact hD⟩, hS.F ht⟩) hS.2.2 dX11_ledger_34
