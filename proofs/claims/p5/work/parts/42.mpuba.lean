set_option maxRecDepth 100000 in
set_option maxHeartbeats 4000000 in
theorem m_X11_noProgram (l : Launch) (D : va_G) (ct : Nat → ClassId) (S : ty_S) (ws : va_W) (ph : va_W → Prop) (xx : Nat → Nat → Nat → Prop) (mo : Nat) (mw : Nat) (ma : Nat) (mf : Nat) (m0 : Nat) (m1 : Nat) (mu : Nat) (mv : Nat) (u0 : Nat) (u1 : Nat) (iz : Nat) (mb : Nat) (th : Int32) (mn : Int32) (mpt : Int32) (mbg : Int32) (mwr : Int32) (mwk : Int32) (mlf : Int32) (men : Int32) (f : Nat → Int32) (G : Nat → Int32) (cx : Int) (p1 : Int32) (p2 : Int32) (sz : Nat) (hT : ty_V ct S ph ws) (hph : ty_C ph xx) (hy1 : ty_y1 xx) (hR : rf_R G cx f) : Met l yX11_noProgram (ws_ yX11_noProgram cX11_noProgram 3 (some .boolean)) ({ frames := 2, cells := 0, slots := 0, locals := 46 } : Room) (va_Pc [.ref mo, .int p1, .int p2] (cmP D ct sz ([(rf_MO mo mw ma mf m0 m1 mu mv u0 u1 iz th mb mn mpt mbg mwr mwk mlf men), (rf_RW ct 0 mw 958 f)] ++ ws))) (va_Qi (fun (r : Int32) (u : va_W × Int32) => match u with | (u9, th1) => ty_V ct S ph u9 ∧ ((r = 0 ∧ ((0 ≤ p1.toInt ∧ p1.toInt < (G 9).toInt) ∧ 0 ≤ p2.toInt ∧ p2.toInt < (G 10).toInt) ∧ th1 = 0) ∨ (r = 1 ∧ ¬ ((0 ≤ p1.toInt ∧ p1.toInt < (G 9).toInt) ∧ 0 ≤ p2.toInt ∧ p2.toInt < (G 10).toInt) ∧ th1 = 1))) (cmB D ([(rf_MO mo mw ma mf m0 m1 mu mv u0 u1 iz th mb mn mpt mbg mwr mwk mlf men), (rf_RW ct 0 mw 958 f)] ++ ws) sz (fun (u : va_W × Int32) => match u with | (u9, th1) => ([(rf_MO mo mw ma mf m0 m1 mu mv u0 u1 iz th1 mb mn mpt mbg mwr mwk mlf men), (rf_RW ct 0 mw 958 f)] ++ u9))) (va_A ([(rf_MO mo mw ma mf m0 m1 mu mv u0 u1 iz th mb mn mpt mbg mwr mwk mlf men), (rf_RW ct 0 mw 958 f)] ++ ws) sz)) 0 0 (va_A ([(rf_MO mo mw ma mf m0 m1 mu mv u0 u1 iz th mb mn mpt mbg mwr mwk mlf men), (rf_RW ct 0 mw 958 f)] ++ ws) sz) := by
  refine Met.ofW (cc := cX11_noProgram) (maxL := 3) (ret := (some .boolean)) (by decide) rfl ?_
  intro p e s m args below meth c s₁ B hml hv
  obtain ⟨rfl, hsz, hP, hK, hD0, hX⟩ := hv
  have hx := B.exec
  have hb := B.bytes
  have hr := B.returns
  have hts := ws_all (atoms_spec (ws := ws_ yX11_noProgram cX11_noProgram 3 (some .boolean)) B.pre)
  have hown : s.vm.findClass RX11 = some m.cls := findClass_of_methodNamed B.named
  have hlocks := B.notSynchronized
  subst hsz
  have hD := hD0.self (sz := s.heap.size)
  generalize hAe : va_A ([(rf_MO mo mw ma mf m0 m1 mu mv u0 u1 iz th mb mn mpt mbg mwr mwk mlf men), (rf_RW ct 0 mw 958 f)] ++ ws) s.heap.size = A at hD hX ⊢
  have hA : ∀ q : Nat, s.heap.size ≤ q → A q := fun q h => by rw [← hAe]; exact Or.inr h
  have hS : va_S A s.heap s.heap [] := va_S.rf
  have hl := lv_entry ([.ref mo, .int p1, .int p2]) (n := 3) (Nat.le_of_ble_eq_true rfl)
  rw [lg_entry_eq]
  generalize (lg_sl ([.ref mo, .int p1, .int p2]) ++ List.replicate (3 - (lg_sl ([.ref mo, .int p1, .int p2])).length) Slot.unset).toArray = ls at hl ⊢
  have hl : lv_has ls 3 [(0, .ref mo), (1, .int p1), (2, .int p2)] := hl
  refine lv_aload_n hx hb dX11_noProgram_0 rfl (lv_at hl 0 rfl) ?_
  refine lv_iload_n hx hb dX11_noProgram_1 rfl (lv_at hl 1 rfl) ?_
  obtain ⟨hP, hD⟩ := ty_ipPD (E1 := []) (E2 := [(rf_MO mo mw ma mf m0 m1 mu mv u0 u1 iz th mb mn mpt mbg mwr mwk mlf men), (rf_RW ct 0 mw 958 f)]) hP hD rfl ty_mva
  refine ty_Ki hP hD hS hA (va_runV (As := [.int p1]) (rest := []) ⟨hx, hb, hml, hown, hts⟩ (m_X11_noChannel l D ct S ws ph xx mo mw ma mf m0 m1 mu mv u0 u1 iz mb th mn mpt mbg mwr mwk mlf men f G cx p1 _ hT hph hy1 hR) (cm_V 1 hts kc_X11_noChannel ki_RX11 kl_RX11_344 kv_X11_noChannel kx_X11_noChannel kd_X11_noChannel ⟨Nat.le_of_ble_eq_true rfl, Nat.le_of_ble_eq_true rfl⟩) (ty_preE (ci := 11) (q0 := 0) hP hK hD hS hA hX rfl rfl) rfl rfl hl.1 rfl (lv_room (Nat.le_of_ble_eq_true rfl)) dX11_noProgram_2 ⟨Nat.le_of_ble_eq_true rfl, Nat.le_of_ble_eq_true rfl⟩) (fun r_1 u H locs hw_2 hP hD hS => ?_)
  obtain ⟨ws_3, th1_4⟩ := u
  obtain ⟨hT, hp_5⟩ := hw_2
  have hp_5 : ((r_1 = 0 ∧ (0 ≤ p1.toInt ∧ p1.toInt < (G 9).toInt) ∧ th1_4 = 0) ∨ (r_1 = 1 ∧ ¬ (0 ≤ p1.toInt ∧ p1.toInt < (G 9).toInt) ∧ th1_4 = 1)) := hp_5
  obtain ⟨hP, hD⟩ := ty_shPD (w2 := ([(rf_MO mo mw ma mf m0 m1 mu mv u0 u1 iz th1_4 mb mn mpt mbg mwr mwk mlf men), (rf_RW ct 0 mw 958 f)] ++ ws_3)) hP hD rfl
  rcases hp_5 with ⟨rfl, hz_6⟩ | ⟨rfl, hz_7⟩
  · have he_8 := hz_6.2
    have hP : va_P D vwCl ([(rf_MO mo mw ma mf m0 m1 mu mv u0 u1 iz (0) mb mn mpt mbg mwr mwk mlf men), (rf_RW ct 0 mw 958 f)] ++ ws_3) H := by rw [he_8] at hP; exact hP
    have hD : va_D A ([(rf_MO mo mw ma mf m0 m1 mu mv u0 u1 iz (0) mb mn mpt mbg mwr mwk mlf men), (rf_RW ct 0 mw 958 f)] ++ ws_3) := by rw [he_8] at hD; exact hD
    refine lv_if_ne (tgt := 40) hx hb dX11_noProgram_5 (by decide) (fun hc => absurd (by decide) hc) (fun _ => ?_)
    refine lv_aload_n hx hb dX11_noProgram_8 rfl (lv_at hl 0 rfl) ?_
    refine lv_iload_n hx hb dX11_noProgram_9 rfl (lv_at hl 2 rfl) ?_
    refine lv_i2l hx hb dX11_noProgram_10 rfl ?_
    refine lv_lconst (v := 0) hx hb dX11_noProgram_11 (by decide) ?_
    refine lv_aload_n hx hb dX11_noProgram_12 rfl (lv_at hl 0 rfl) ?_
    refine va_get (v := .ref mw) (D := D) (ci := 11) (C := RX11) (T := TX11) (N := 19) hx hb hts in_X11 hown hK hP 0 rfl rfl 0 (by decide) (hts _ kl_RX11_9) (fun _ h9 => h9) rfl dX11_noProgram_13 ?_
    refine lv_bipush (v := 10) hx hb dX11_noProgram_16 (by decide) ?_
    refine va_iald hx hb hK hP 1 0 rfl rfl (cm_vin (by decide)) dX11_noProgram_18 ?_
    refine cm_cst (y := (f 10)) (by first | rfl | decide +kernel) ?_
    refine lv_iconst (v := 1) hx hb dX11_noProgram_19 (by decide) ?_
    refine lv_isub hx hb dX11_noProgram_20 ?_
    refine lv_i2l hx hb dX11_noProgram_21 rfl ?_
    obtain ⟨hP, hD⟩ := ty_ipPD (E1 := [(rf_MO mo mw ma mf m0 m1 mu mv u0 u1 iz (0) mb mn mpt mbg mwr mwk mlf men), (rf_RW ct 0 mw 958 f)]) (E2 := []) hP hD rfl ty_mva
    refine ty_Ki hP hD hS hA (va_runS (As := [.long p2.toInt64, .long 0, .long (((f 10) - 1).toInt64)]) (rest := [.ref mo]) ⟨hx, hb, hml, hown, hts⟩ (m_X11_in l D ct S ws_3 ph xx p2.toInt64 (0 : Int64) (((f 10) - 1).toInt64) _ hT hph hy1) (cm_S 3 hts kc_X11_in ki_RX11 kl_RX11_70 ks_X11_in kd_X11_in ⟨Nat.le_of_ble_eq_true rfl, Nat.le_of_ble_eq_true rfl⟩) (ty_preS hP hK hD hS hA hX) rfl rfl hl.1 rfl (lv_room (Nat.le_of_ble_eq_true rfl)) dX11_noProgram_22 ⟨Nat.le_of_ble_eq_true rfl, Nat.le_of_ble_eq_true rfl⟩) (fun r_9 u H locs hw_10 hP hD hS => ?_)
    obtain ⟨ws_11, rfl⟩ : ∃ z, z = u := ⟨_, rfl⟩
    obtain ⟨hT, rfl⟩ := hw_10
    obtain ⟨hP, hD⟩ := ty_shPD (w2 := ([(rf_MO mo mw ma mf m0 m1 mu mv u0 u1 iz (0) mb mn mpt mbg mwr mwk mlf men), (rf_RW ct 0 mw 958 f)] ++ ws_11)) hP hD rfl
    refine lv_if_ne (tgt := 32) hx hb dX11_noProgram_25 (by decide) (fun hc_12 => ?_) (fun hc_12 => ?_)
    · refine lv_iconst (v := 0) hx hb dX11_noProgram_32 (by decide) ?_
      refine lv_iconst (v := 1) hx hb dX11_noProgram_33 (by decide) ?_
      obtain ⟨hP, hD⟩ := ty_opPD (E1 := [(rf_RW ct 0 mw 958 f)]) (E2 := [(rf_MO mo mw ma mf m0 m1 mu mv u0 u1 iz (0) mb mn mpt mbg mwr mwk mlf men)]) (n := 2) [1, 0] hP hD rfl rfl (by decide +kernel) ty_mva
      refine ty_Ki hP hD hS hA (va_runV (As := [.int 0, .int 1]) (rest := []) ⟨hx, hb, hml, hown, hts⟩ (m_throwsIf_0 l D ct S ws_11 ph xx mo mw ma mf m0 m1 mu mv u0 u1 iz mb mn mpt mbg mwr mwk mlf men (0 : Int32) (1 : Int32) _ hT hph hy1 (by decide)) (cm_V 2 hts kc_X11_throwsIf ki_RX11 kl_RX11_328 kv_X11_throwsIf kx_X11_throwsIf kd_X11_throwsIf ⟨Nat.le_of_ble_eq_true rfl, Nat.le_of_ble_eq_true rfl⟩) (ty_preE (ci := 11) (q0 := 1) hP hK hD hS hA hX rfl rfl) rfl rfl hl.1 rfl (lv_room (Nat.le_of_ble_eq_true rfl)) dX11_noProgram_34 ⟨Nat.le_of_ble_eq_true rfl, Nat.le_of_ble_eq_true rfl⟩) (fun r_13 u H locs hw_14 hP hD hS => ?_)
      obtain ⟨ws_15, th1_16⟩ := u
      obtain ⟨hT, hp_17⟩ := hw_14
      have hp_17 : ((r_13 = 0 ∧ (0 : Int32) = 0 ∧ th1_16 = 0) ∨ (r_13 = 1 ∧ ¬ (0 : Int32) = 0 ∧ th1_16 = (1 : Int32))) := hp_17
      obtain ⟨hP, hD⟩ := ty_shPD (w2 := ([(rf_RW ct 0 mw 958 f), (rf_MO mo mw ma mf m0 m1 mu mv u0 u1 iz th1_16 mb mn mpt mbg mwr mwk mlf men)] ++ ws_15)) hP hD rfl
      rcases hp_17 with ⟨rfl, hz_18⟩ | ⟨rfl, hz_19⟩
      · have he_20 := hz_18.2
        have hP : va_P D vwCl ([(rf_RW ct 0 mw 958 f), (rf_MO mo mw ma mf m0 m1 mu mv u0 u1 iz (0) mb mn mpt mbg mwr mwk mlf men)] ++ ws_15) H := by rw [he_20] at hP; exact hP
        have hD : va_D A ([(rf_RW ct 0 mw 958 f), (rf_MO mo mw ma mf m0 m1 mu mv u0 u1 iz (0) mb mn mpt mbg mwr mwk mlf men)] ++ ws_15) := by rw [he_20] at hD; exact hD
        refine lv_if_eq (tgt := 44) hx hb dX11_noProgram_37 (by decide) (fun _ => ?_) (fun hc => absurd (by decide) hc)
        refine lv_iconst (v := 0) hx hb dX11_noProgram_44 (by decide) ?_
        obtain ⟨hP, hD⟩ := ty_ordPD (E2 := [(rf_MO mo mw ma mf m0 m1 mu mv u0 u1 iz (0) mb mn mpt mbg mwr mwk mlf men), (rf_RW ct 0 mw 958 f)]) (n := 2) [1, 0] hP hD rfl rfl (by decide +kernel)
        exact W.zret (v := 0) hx hb hr (by decide) (fun t ht hW => ⟨⟨0, (ws_15, (0 : Int32)), rfl, ⟨hT, (Or.inl ⟨rfl, ⟨hz_6.1, rf_prog hR hc_12⟩, rfl⟩)⟩, by rw [ht]; exact hP, by rw [hAe]; exact hD⟩, hS.F ht⟩) hS.2.2 dX11_noProgram_45
      · exact absurd rfl hz_19.1
    · refine lv_iconst (v := 1) hx hb dX11_noProgram_28 (by decide) ?_
      refine lv_goto (tgt := 33) hx hb dX11_noProgram_29 (by decide) ?_
      refine lv_iconst (v := 1) hx hb dX11_noProgram_33 (by decide) ?_
      obtain ⟨hP, hD⟩ := ty_opPD (E1 := [(rf_RW ct 0 mw 958 f)]) (E2 := [(rf_MO mo mw ma mf m0 m1 mu mv u0 u1 iz (0) mb mn mpt mbg mwr mwk mlf men)]) (n := 2) [1, 0] hP hD rfl rfl (by decide +kernel) ty_mva
      refine ty_Ki hP hD hS hA (va_runV (As := [.int 1, .int 1]) (rest := []) ⟨hx, hb, hml, hown, hts⟩ (m_throwsIf_0 l D ct S ws_11 ph xx mo mw ma mf m0 m1 mu mv u0 u1 iz mb mn mpt mbg mwr mwk mlf men (1 : Int32) (1 : Int32) _ hT hph hy1 (by decide)) (cm_V 2 hts kc_X11_throwsIf ki_RX11 kl_RX11_328 kv_X11_throwsIf kx_X11_throwsIf kd_X11_throwsIf ⟨Nat.le_of_ble_eq_true rfl, Nat.le_of_ble_eq_true rfl⟩) (ty_preE (ci := 11) (q0 := 1) hP hK hD hS hA hX rfl rfl) rfl rfl hl.1 rfl (lv_room (Nat.le_of_ble_eq_true rfl)) dX11_noProgram_34 ⟨Nat.le_of_ble_eq_true rfl, Nat.le_of_ble_eq_true rfl⟩) (fun r_21 u H locs hw_22 hP hD hS => ?_)
      obtain ⟨ws_23, th1_24⟩ := u
      obtain ⟨hT, hp_25⟩ := hw_22
      have hp_25 : ((r_21 = 0 ∧ (1 : Int32) = 0 ∧ th1_24 = 0) ∨ (r_21 = 1 ∧ ¬ (1 : Int32) = 0 ∧ th1_24 = (1 : Int32))) := hp_25
      obtain ⟨hP, hD⟩ := ty_shPD (w2 := ([(rf_RW ct 0 mw 958 f), (rf_MO mo mw ma mf m0 m1 mu mv u0 u1 iz th1_24 mb mn mpt mbg mwr mwk mlf men)] ++ ws_23)) hP hD rfl
      rcases hp_25 with ⟨rfl, hz_26⟩ | ⟨rfl, hz_27⟩
      · exact absurd hz_26.1 (by decide)
      · have he_28 := hz_27.2
        have hP : va_P D vwCl ([(rf_RW ct 0 mw 958 f), (rf_MO mo mw ma mf m0 m1 mu mv u0 u1 iz (1) mb mn mpt mbg mwr mwk mlf men)] ++ ws_23) H := by rw [he_28] at hP; exact hP
        have hD : va_D A ([(rf_RW ct 0 mw 958 f), (rf_MO mo mw ma mf m0 m1 mu mv u0 u1 iz (1) mb mn mpt mbg mwr mwk mlf men)] ++ ws_23) := by rw [he_28] at hD; exact hD
        refine lv_if_eq (tgt := 44) hx hb dX11_noProgram_37 (by decide) (fun hc => absurd hc (by decide)) (fun _ => ?_)
        refine lv_iconst (v := 1) hx hb dX11_noProgram_40 (by decide) ?_
        refine lv_goto (tgt := 45) hx hb dX11_noProgram_41 (by decide) ?_
        obtain ⟨hP, hD⟩ := ty_ordPD (E2 := [(rf_MO mo mw ma mf m0 m1 mu mv u0 u1 iz (1) mb mn mpt mbg mwr mwk mlf men), (rf_RW ct 0 mw 958 f)]) (n := 2) [1, 0] hP hD rfl rfl (by decide +kernel)
        exact W.zret (v := 1) hx hb hr (by decide) (fun t ht hW => ⟨⟨1, (ws_23, (1 : Int32)), rfl, ⟨hT, (Or.inr ⟨rfl, (fun q9 => rf_nprog hR hc_12 q9.2), rfl⟩)⟩, by rw [ht]; exact hP, by rw [hAe]; exact hD⟩, hS.F ht⟩) hS.2.2 dX11_noProgram_45
  · have he_29 := hz_7.2
    have hP : va_P D vwCl ([(rf_MO mo mw ma mf m0 m1 mu mv u0 u1 iz (1) mb mn mpt mbg mwr mwk mlf men), (rf_RW ct 0 mw 958 f)] ++ ws_3) H := by rw [he_29] at hP; exact hP
    have hD : va_D A ([(rf_MO mo mw ma mf m0 m1 mu mv u0 u1 iz (1) mb mn mpt mbg mwr mwk mlf men), (rf_RW ct 0 mw 958 f)] ++ ws_3) := by rw [he_29] at hD; exact hD
    refine lv_if_ne (tgt := 40) hx hb dX11_noProgram_5 (by decide) (fun _ => ?_) (fun hc => absurd hc (by decide))
    refine lv_iconst (v := 1) hx hb dX11_noProgram_40 (by decide) ?_
    refine lv_goto (tgt := 45) hx hb dX11_noProgram_41 (by decide) ?_
    exact W.zret (v := 1) hx hb hr (by decide) (fun t ht hW => ⟨⟨1, (ws_3, (1 : Int32)), rfl, ⟨hT, (Or.inr ⟨rfl, (fun q9 => hz_7.1 q9.1), rfl⟩)⟩, by rw [ht]; exact hP, by rw [hAe]; exact hD⟩, hS.F ht⟩) hS.2.2 dX11_noProgram_45
def q_X11_count (f : Nat → Int32) (p1 : Int32) (r : Int32) (th1 : Int32) : Prop := ((¬ (cm_rng p1.toInt64 0 2) = (0 : Int32) ∧ (∃ (th1_8 : Int32), True ∧ (((0 : Int32) = 0 ∧ th1_8 = 0) ∧ (r = (f (9 + p1).toNatClampNeg) ∧ th1 = 0)))) ∨ ((cm_rng p1.toInt64 0 2) = (0 : Int32) ∧ (∃ (th1_16 : Int32), True ∧ ((¬ (1 : Int32) = 0 ∧ th1_16 = (1 : Int32)) ∧ (r = 0 ∧ th1 = 1)))))
set_option maxRecDepth 100000 in
set_option maxHeartbeats 4000000 in
theorem m_X11_count (l : Launch) (D : va_G) (ct : Nat → ClassId) (S : ty_S) (ws : va_W) (ph : va_W → Prop) (xx : Nat → Nat → Nat → Prop) (mo : Nat) (mw : Nat) (ma : Nat) (mf : Nat) (m0 : Nat) (m1 : Nat) (mu : Nat) (mv : Nat) (u0 : Nat) (u1 : Nat) (iz : Nat) (mb : Nat) (th : Int32) (mn : Int32) (mpt : Int32) (mbg : Int32) (mwr : Int32) (mwk : Int32) (mlf : Int32) (men : Int32) (f : Nat → Int32) (G : Nat → Int32) (cx : Int) (p1 : Int32) (sz : Nat) (hT : ty_V ct S ph ws) (hph : ty_C ph xx) (hy1 : ty_y1 xx) (hR : rf_R G cx f) : Met l yX11_count (ws_ yX11_count cX11_count 2 (some .int)) ({ frames := 1, cells := 0, slots := 0, locals := 25 } : Room) (va_Pc [.ref mo, .int p1] (cmP D ct sz ([(rf_MO mo mw ma mf m0 m1 mu mv u0 u1 iz th mb mn mpt mbg mwr mwk mlf men), (rf_RW ct 0 mw 958 f)] ++ ws))) (va_Qi (fun (r : Int32) (u : va_W × Int32) => match u with | (u9, th1) => ty_V ct S ph u9 ∧ (q_X11_count f p1 r th1)) (cmB D ([(rf_MO mo mw ma mf m0 m1 mu mv u0 u1 iz th mb mn mpt mbg mwr mwk mlf men), (rf_RW ct 0 mw 958 f)] ++ ws) sz (fun (u : va_W × Int32) => match u with | (u9, th1) => ([(rf_MO mo mw ma mf m0 m1 mu mv u0 u1 iz th1 mb mn mpt mbg mwr mwk mlf men), (rf_RW ct 0 mw 958 f)] ++ u9))) (va_A ([(rf_MO mo mw ma mf m0 m1 mu mv u0 u1 iz th mb mn mpt mbg mwr mwk mlf men), (rf_RW ct 0 mw 958 f)] ++ ws) sz)) 0 0 (va_A ([(rf_MO mo mw ma mf m0 m1 mu mv u0 u1 iz th mb mn mpt mbg mwr mwk mlf men), (rf_RW ct 0 mw 958 f)] ++ ws) sz) := by
  refine Met.ofW (cc := cX11_count) (maxL := 2) (ret := (some .int)) (by decide) rfl ?_
  intro p e s m args below meth c s₁ B hml hv
  obtain ⟨rfl, hsz, hP, hK, hD0, hX⟩ := hv
  have hx := B.exec
  have hb := B.bytes
  have hr := B.returns
  have hts := ws_all (atoms_spec (ws := ws_ yX11_count cX11_count 2 (some .int)) B.pre)
  have hown : s.vm.findClass RX11 = some m.cls := findClass_of_methodNamed B.named
  have hlocks := B.notSynchronized
  subst hsz
  have hD := hD0.self (sz := s.heap.size)
  generalize hAe : va_A ([(rf_MO mo mw ma mf m0 m1 mu mv u0 u1 iz th mb mn mpt mbg mwr mwk mlf men), (rf_RW ct 0 mw 958 f)] ++ ws) s.heap.size = A at hD hX ⊢
  have hA : ∀ q : Nat, s.heap.size ≤ q → A q := fun q h => by rw [← hAe]; exact Or.inr h
  have hS : va_S A s.heap s.heap [] := va_S.rf
  have hl := lv_entry ([.ref mo, .int p1]) (n := 2) (Nat.le_of_ble_eq_true rfl)
  rw [lg_entry_eq]
  generalize (lg_sl ([.ref mo, .int p1]) ++ List.replicate (2 - (lg_sl ([.ref mo, .int p1])).length) Slot.unset).toArray = ls at hl ⊢
  have hl : lv_has ls 2 [(0, .ref mo), (1, .int p1)] := hl
  refine lv_aload_n hx hb dX11_count_0 rfl (lv_at hl 0 rfl) ?_
  refine lv_iconst (v := 0) hx hb dX11_count_1 (by decide) ?_
  refine va_put (v := .int 0) (ty := .int) (D := D) (ci := 11) (C := RX11) (T := TX11) (N := 19) hx hb hts in_X11 tyX11 tyX11_ok nmX11 hown hK hP hD hS 0 rfl rfl 10 (by decide) (hts _ kl_RX11_49) (fun _ h9 => h9) rfl (by decide +kernel) rfl rfl (Nat.le_of_ble_eq_true rfl) dX11_count_2 (fun H locs hP hD hS => ?_)
  have hP : va_P D vwCl ([(rf_MO mo mw ma mf m0 m1 mu mv u0 u1 iz (0) mb mn mpt mbg mwr mwk mlf men), (rf_RW ct 0 mw 958 f)] ++ ws) H := hP
  have hD : va_D A ([(rf_MO mo mw ma mf m0 m1 mu mv u0 u1 iz (0) mb mn mpt mbg mwr mwk mlf men), (rf_RW ct 0 mw 958 f)] ++ ws) := hD
  refine lv_aload_n hx hb dX11_count_5 rfl (lv_at hl 0 rfl) ?_
  refine lv_iload_n hx hb dX11_count_6 rfl (lv_at hl 1 rfl) ?_
  refine lv_i2l hx hb dX11_count_7 rfl ?_
  refine lv_lconst (v := 0) hx hb dX11_count_8 (by decide) ?_
  refine lv_ldc2 hx hb hown (hts _ kl_RX11_326) dX11_count_9 ?_
  obtain ⟨hP, hD⟩ := ty_ipPD (E1 := [(rf_MO mo mw ma mf m0 m1 mu mv u0 u1 iz (0) mb mn mpt mbg mwr mwk mlf men), (rf_RW ct 0 mw 958 f)]) (E2 := []) hP hD rfl ty_mva
  refine ty_Ki hP hD hS hA (va_runS (As := [.long p1.toInt64, .long 0, .long 2]) (rest := [.ref mo]) ⟨hx, hb, hml, hown, hts⟩ (m_X11_in l D ct S ws ph xx p1.toInt64 (0 : Int64) (2 : Int64) _ hT hph hy1) (cm_S 3 hts kc_X11_in ki_RX11 kl_RX11_70 ks_X11_in kd_X11_in ⟨Nat.le_of_ble_eq_true rfl, Nat.le_of_ble_eq_true rfl⟩) (ty_preS hP hK hD hS hA hX) rfl rfl hl.1 rfl (lv_room (Nat.le_of_ble_eq_true rfl)) dX11_count_12 ⟨Nat.le_of_ble_eq_true rfl, Nat.le_of_ble_eq_true rfl⟩) (fun r_1 u H locs hw_2 hP hD hS => ?_)
  obtain ⟨ws_3, rfl⟩ : ∃ z, z = u := ⟨_, rfl⟩
  obtain ⟨hT, rfl⟩ := hw_2
  obtain ⟨hP, hD⟩ := ty_shPD (w2 := ([(rf_MO mo mw ma mf m0 m1 mu mv u0 u1 iz (0) mb mn mpt mbg mwr mwk mlf men), (rf_RW ct 0 mw 958 f)] ++ ws_3)) hP hD rfl
  refine lv_if_ne (tgt := 22) hx hb dX11_count_15 (by decide) (fun hc_4 => ?_) (fun hc_4 => ?_)
  · refine lv_iconst (v := 0) hx hb dX11_count_22 (by decide) ?_
    refine lv_iconst (v := 1) hx hb dX11_count_23 (by decide) ?_
    obtain ⟨hP, hD⟩ := ty_opPD (E1 := [(rf_RW ct 0 mw 958 f)]) (E2 := [(rf_MO mo mw ma mf m0 m1 mu mv u0 u1 iz (0) mb mn mpt mbg mwr mwk mlf men)]) (n := 2) [1, 0] hP hD rfl rfl (by decide +kernel) ty_mva
    refine ty_Ki hP hD hS hA (va_runV (As := [.int 0, .int 1]) (rest := []) ⟨hx, hb, hml, hown, hts⟩ (m_throwsIf_0 l D ct S ws_3 ph xx mo mw ma mf m0 m1 mu mv u0 u1 iz mb mn mpt mbg mwr mwk mlf men (0 : Int32) (1 : Int32) _ hT hph hy1 (by decide)) (cm_V 2 hts kc_X11_throwsIf ki_RX11 kl_RX11_328 kv_X11_throwsIf kx_X11_throwsIf kd_X11_throwsIf ⟨Nat.le_of_ble_eq_true rfl, Nat.le_of_ble_eq_true rfl⟩) (ty_preE (ci := 11) (q0 := 1) hP hK hD hS hA hX rfl rfl) rfl rfl hl.1 rfl (lv_room (Nat.le_of_ble_eq_true rfl)) dX11_count_24 ⟨Nat.le_of_ble_eq_true rfl, Nat.le_of_ble_eq_true rfl⟩) (fun r_5 u H locs hw_6 hP hD hS => ?_)
    obtain ⟨ws_7, th1_8⟩ := u
    obtain ⟨hT, hp_9⟩ := hw_6
    have hp_9 : ((r_5 = 0 ∧ (0 : Int32) = 0 ∧ th1_8 = 0) ∨ (r_5 = 1 ∧ ¬ (0 : Int32) = 0 ∧ th1_8 = (1 : Int32))) := hp_9
    obtain ⟨hP, hD⟩ := ty_shPD (w2 := ([(rf_RW ct 0 mw 958 f), (rf_MO mo mw ma mf m0 m1 mu mv u0 u1 iz th1_8 mb mn mpt mbg mwr mwk mlf men)] ++ ws_7)) hP hD rfl
    rcases hp_9 with ⟨rfl, hz_10⟩ | ⟨rfl, hz_11⟩
    · have he_12 := hz_10.2
      have hP : va_P D vwCl ([(rf_RW ct 0 mw 958 f), (rf_MO mo mw ma mf m0 m1 mu mv u0 u1 iz (0) mb mn mpt mbg mwr mwk mlf men)] ++ ws_7) H := by rw [he_12] at hP; exact hP
      have hD : va_D A ([(rf_RW ct 0 mw 958 f), (rf_MO mo mw ma mf m0 m1 mu mv u0 u1 iz (0) mb mn mpt mbg mwr mwk mlf men)] ++ ws_7) := by rw [he_12] at hD; exact hD
      refine lv_if_eq (tgt := 34) hx hb dX11_count_27 (by decide) (fun _ => ?_) (fun hc => absurd (by decide) hc)
      refine lv_aload_n hx hb dX11_count_34 rfl (lv_at hl 0 rfl) ?_
      refine va_get (v := .ref mw) (D := D) (ci := 11) (C := RX11) (T := TX11) (N := 19) hx hb hts in_X11 hown hK hP 1 rfl rfl 0 (by decide) (hts _ kl_RX11_9) (fun _ h9 => h9) rfl dX11_count_35 ?_
      refine lv_bipush (v := 9) hx hb dX11_count_38 (by decide) ?_
      refine lv_iload_n hx hb dX11_count_40 rfl (lv_at hl 1 rfl) ?_
      refine lv_iadd hx hb dX11_count_41 ?_
      refine va_iald hx hb hK hP 0 0 rfl rfl (rf_in1 (by have := (rf_rngc (L := 0) (U := 2) (by decide) (by decide) hc_4); have := rf_add9 (a := 9) (A := 9) (B := 2) (by decide) this (by omega) (by omega); omega)) dX11_count_42 ?_
      obtain ⟨hP, hD⟩ := ty_ordPD (E2 := [(rf_MO mo mw ma mf m0 m1 mu mv u0 u1 iz (0) mb mn mpt mbg mwr mwk mlf men), (rf_RW ct 0 mw 958 f)]) (n := 2) [1, 0] hP hD rfl rfl (by decide +kernel)
      exact W.iret (v := (f (9 + p1).toNatClampNeg)) hx hb hr (fun t ht hW => ⟨⟨(f (9 + p1).toNatClampNeg), (ws_7, (0 : Int32)), rfl, ⟨hT, (Or.inl ⟨hc_4, ⟨th1_8, trivial, ⟨hz_10, ⟨rfl, rfl⟩⟩⟩⟩)⟩, by rw [ht]; exact hP, by rw [hAe]; exact hD⟩, hS.F ht⟩) hS.2.2 dX11_count_43
    · exact absurd rfl hz_11.1
  · refine lv_iconst (v := 1) hx hb dX11_count_18 (by decide) ?_
    refine lv_goto (tgt := 23) hx hb dX11_count_19 (by decide) ?_
    refine lv_iconst (v := 1) hx hb dX11_count_23 (by decide) ?_
    obtain ⟨hP, hD⟩ := ty_opPD (E1 := [(rf_RW ct 0 mw 958 f)]) (E2 := [(rf_MO mo mw ma mf m0 m1 mu mv u0 u1 iz (0) mb mn mpt mbg mwr mwk mlf men)]) (n := 2) [1, 0] hP hD rfl rfl (by decide +kernel) ty_mva
    refine ty_Ki hP hD hS hA (va_runV (As := [.int 1, .int 1]) (rest := []) ⟨hx, hb, hml, hown, hts⟩ (m_throwsIf_0 l D ct S ws_3 ph xx mo mw ma mf m0 m1 mu mv u0 u1 iz mb mn mpt mbg mwr mwk mlf men (1 : Int32) (1 : Int32) _ hT hph hy1 (by decide)) (cm_V 2 hts kc_X11_throwsIf ki_RX11 kl_RX11_328 kv_X11_throwsIf kx_X11_throwsIf kd_X11_throwsIf ⟨Nat.le_of_ble_eq_true rfl, Nat.le_of_ble_eq_true rfl⟩) (ty_preE (ci := 11) (q0 := 1) hP hK hD hS hA hX rfl rfl) rfl rfl hl.1 rfl (lv_room (Nat.le_of_ble_eq_true rfl)) dX11_count_24 ⟨Nat.le_of_ble_eq_true rfl, Nat.le_of_ble_eq_true rfl⟩) (fun r_13 u H locs hw_14 hP hD hS => ?_)
    obtain ⟨ws_15, th1_16⟩ := u
    obtain ⟨hT, hp_17⟩ := hw_14
    have hp_17 : ((r_13 = 0 ∧ (1 : Int32) = 0 ∧ th1_16 = 0) ∨ (r_13 = 1 ∧ ¬ (1 : Int32) = 0 ∧ th1_16 = (1 : Int32))) := hp_17
    obtain ⟨hP, hD⟩ := ty_shPD (w2 := ([(rf_RW ct 0 mw 958 f), (rf_MO mo mw ma mf m0 m1 mu mv u0 u1 iz th1_16 mb mn mpt mbg mwr mwk mlf men)] ++ ws_15)) hP hD rfl
    rcases hp_17 with ⟨rfl, hz_18⟩ | ⟨rfl, hz_19⟩
    · exact absurd hz_18.1 (by decide)
    · have he_20 := hz_19.2
      have hP : va_P D vwCl ([(rf_RW ct 0 mw 958 f), (rf_MO mo mw ma mf m0 m1 mu mv u0 u1 iz (1) mb mn mpt mbg mwr mwk mlf men)] ++ ws_15) H := by rw [he_20] at hP; exact hP
      have hD : va_D A ([(rf_RW ct 0 mw 958 f), (rf_MO mo mw ma mf m0 m1 mu mv u0 u1 iz (1) mb mn mpt mbg mwr mwk mlf men)] ++ ws_15) := by rw [he_20] at hD; exact hD
      refine lv_if_eq (tgt := 34) hx hb dX11_count_27 (by decide) (fun hc => absurd hc (by decide)) (fun _ => ?_)
      refine lv_iconst (v := 0) hx hb dX11_count_30 (by decide) ?_
      refine lv_goto (tgt := 43) hx hb dX11_count_31 (by decide) ?_
      obtain ⟨hP, hD⟩ := ty_ordPD (E2 := [(rf_MO mo mw ma mf m0 m1 mu mv u0 u1 iz (1) mb mn mpt mbg mwr mwk mlf men), (rf_RW ct 0 mw 958 f)]) (n := 2) [1, 0] hP hD rfl rfl (by decide +kernel)
      exact W.iret (v := 0) hx hb hr (fun t ht hW => ⟨⟨0, (ws_15, (1 : Int32)), rfl, ⟨hT, (Or.inr ⟨hc_4, ⟨th1_16, trivial, ⟨hz_19, ⟨rfl, rfl⟩⟩⟩⟩)⟩, by rw [ht]; exact hP, by rw [hAe]; exact hD⟩, hS.F ht⟩) hS.2.2 dX11_count_43
def q_X11_setting (f : Nat → Int32) (p1 : Int32) (r : Int32) (th1 : Int32) : Prop := ((¬ (cm_rng p1.toInt64 0 7) = (0 : Int32) ∧ (∃ (th1_8 : Int32), True ∧ (((0 : Int32) = 0 ∧ th1_8 = 0) ∧ (r = (f p1.toNatClampNeg) ∧ th1 = 0)))) ∨ ((cm_rng p1.toInt64 0 7) = (0 : Int32) ∧ (∃ (th1_16 : Int32), True ∧ ((¬ (1 : Int32) = 0 ∧ th1_16 = (1 : Int32)) ∧ (r = 0 ∧ th1 = 1)))))
set_option maxRecDepth 100000 in
set_option maxHeartbeats 4000000 in
theorem m_X11_setting (l : Launch) (D : va_G) (ct : Nat → ClassId) (S : ty_S) (ws : va_W) (ph : va_W → Prop) (xx : Nat → Nat → Nat → Prop) (mo : Nat) (mw : Nat) (ma : Nat) (mf : Nat) (m0 : Nat) (m1 : Nat) (mu : Nat) (mv : Nat) (u0 : Nat) (u1 : Nat) (iz : Nat) (mb : Nat) (th : Int32) (mn : Int32) (mpt : Int32) (mbg : Int32) (mwr : Int32) (mwk : Int32) (mlf : Int32) (men : Int32) (f : Nat → Int32) (G : Nat → Int32) (cx : Int) (p1 : Int32) (sz : Nat) (hT : ty_V ct S ph ws) (hph : ty_C ph xx) (hy1 : ty_y1 xx) (hR : rf_R G cx f) : Met l yX11_setting (ws_ yX11_setting cX11_setting 2 (some .int)) ({ frames := 1, cells := 0, slots := 0, locals := 25 } : Room) (va_Pc [.ref mo, .int p1] (cmP D ct sz ([(rf_MO mo mw ma mf m0 m1 mu mv u0 u1 iz th mb mn mpt mbg mwr mwk mlf men), (rf_RW ct 0 mw 958 f)] ++ ws))) (va_Qi (fun (r : Int32) (u : va_W × Int32) => match u with | (u9, th1) => ty_V ct S ph u9 ∧ (q_X11_setting f p1 r th1)) (cmB D ([(rf_MO mo mw ma mf m0 m1 mu mv u0 u1 iz th mb mn mpt mbg mwr mwk mlf men), (rf_RW ct 0 mw 958 f)] ++ ws) sz (fun (u : va_W × Int32) => match u with | (u9, th1) => ([(rf_MO mo mw ma mf m0 m1 mu mv u0 u1 iz th1 mb mn mpt mbg mwr mwk mlf men), (rf_RW ct 0 mw 958 f)] ++ u9))) (va_A ([(rf_MO mo mw ma mf m0 m1 mu mv u0 u1 iz th mb mn mpt mbg mwr mwk mlf men), (rf_RW ct 0 mw 958 f)] ++ ws) sz)) 0 0 (va_A ([(rf_MO mo mw ma mf m0 m1 mu mv u0 u1 iz th mb mn mpt mbg mwr mwk mlf men), (rf_RW ct 0 mw 958 f)] ++ ws) sz) := by
  refine Met.ofW (cc := cX11_setting) (maxL := 2) (ret := (some .int)) (by decide) rfl ?_
  intro p e s m args below meth c s₁ B hml hv
  obtain ⟨rfl, hsz, hP, hK, hD0, hX⟩ := hv
  have hx := B.exec
  have hb := B.bytes
  have hr := B.returns
  have hts := ws_all (atoms_spec (ws := ws_ yX11_setting cX11_setting 2 (some .int)) B.pre)
  have hown : s.vm.findClass RX11 = some m.cls := findClass_of_methodNamed B.named
  have hlocks := B.notSynchronized
  subst hsz
  have hD := hD0.self (sz := s.heap.size)
  generalize hAe : va_A ([(rf_MO mo mw ma mf m0 m1 mu mv u0 u1 iz th mb mn mpt mbg mwr mwk mlf men), (rf_RW ct 0 mw 958 f)] ++ ws) s.heap.size = A at hD hX ⊢
  have hA : ∀ q : Nat, s.heap.size ≤ q → A q := fun q h => by rw [← hAe]; exact Or.inr h
  have hS : va_S A s.heap s.heap [] := va_S.rf
  have hl := lv_entry ([.ref mo, .int p1]) (n := 2) (Nat.le_of_ble_eq_true rfl)
  rw [lg_entry_eq]
  generalize (lg_sl ([.ref mo, .int p1]) ++ List.replicate (2 - (lg_sl ([.ref mo, .int p1])).length) Slot.unset).toArray = ls at hl ⊢
  have hl : lv_has ls 2 [(0, .ref mo), (1, .int p1)] := hl
  refine lv_aload_n hx hb dX11_setting_0 rfl (lv_at hl 0 rfl) ?_
  refine lv_iconst (v := 0) hx hb dX11_setting_1 (by decide) ?_
  refine va_put (v := .int 0) (ty := .int) (D := D) (ci := 11) (C := RX11) (T := TX11) (N := 19) hx hb hts in_X11 tyX11 tyX11_ok nmX11 hown hK hP hD hS 0 rfl rfl 10 (by decide) (hts _ kl_RX11_49) (fun _ h9 => h9) rfl (by decide +kernel) rfl rfl (Nat.le_of_ble_eq_true rfl) dX11_setting_2 (fun H locs hP hD hS => ?_)
  have hP : va_P D vwCl ([(rf_MO mo mw ma mf m0 m1 mu mv u0 u1 iz (0) mb mn mpt mbg mwr mwk mlf men), (rf_RW ct 0 mw 958 f)] ++ ws) H := hP
  have hD : va_D A ([(rf_MO mo mw ma mf m0 m1 mu mv u0 u1 iz (0) mb mn mpt mbg mwr mwk mlf men), (rf_RW ct 0 mw 958 f)] ++ ws) := hD
  refine lv_aload_n hx hb dX11_setting_5 rfl (lv_at hl 0 rfl) ?_
  refine lv_iload_n hx hb dX11_setting_6 rfl (lv_at hl 1 rfl) ?_
  refine lv_i2l hx hb dX11_setting_7 rfl ?_
  refine lv_lconst (v := 0) hx hb dX11_setting_8 (by decide) ?_
  refine lv_ldc2 hx hb hown (hts _ kl_RX11_332) dX11_setting_9 ?_
  obtain ⟨hP, hD⟩ := ty_ipPD (E1 := [(rf_MO mo mw ma mf m0 m1 mu mv u0 u1 iz (0) mb mn mpt mbg mwr mwk mlf men), (rf_RW ct 0 mw 958 f)]) (E2 := []) hP hD rfl ty_mva
  refine ty_Ki hP hD hS hA (va_runS (As := [.long p1.toInt64, .long 0, .long 7]) (rest := [.ref mo]) ⟨hx, hb, hml, hown, hts⟩ (m_X11_in l D ct S ws ph xx p1.toInt64 (0 : Int64) (7 : Int64) _ hT hph hy1) (cm_S 3 hts kc_X11_in ki_RX11 kl_RX11_70 ks_X11_in kd_X11_in ⟨Nat.le_of_ble_eq_true rfl, Nat.le_of_ble_eq_true rfl⟩) (ty_preS hP hK hD hS hA hX) rfl rfl hl.1 rfl (lv_room (Nat.le_of_ble_eq_true rfl)) dX11_setting_12 ⟨Nat.le_of_ble_eq_true rfl, Nat.le_of_ble_eq_true rfl⟩) (fun r_1 u H locs hw_2 hP hD hS => ?_)
  obtain ⟨ws_3, rfl⟩ : ∃ z, z = u := ⟨_, rfl⟩
  obtain ⟨hT, rfl⟩ := hw_2
  obtain ⟨hP, hD⟩ := ty_shPD (w2 := ([(rf_MO mo mw ma mf m0 m1 mu mv u0 u1 iz (0) mb mn mpt mbg mwr mwk mlf men), (rf_RW ct 0 mw 958 f)] ++ ws_3)) hP hD rfl
  refine lv_if_ne (tgt := 22) hx hb dX11_setting_15 (by decide) (fun hc_4 => ?_) (fun hc_4 => ?_)
  · refine lv_iconst (v := 0) hx hb dX11_setting_22 (by decide) ?_
    refine lv_iconst (v := 1) hx hb dX11_setting_23 (by decide) ?_
    obtain ⟨hP, hD⟩ := ty_opPD (E1 := [(rf_RW ct 0 mw 958 f)]) (E2 := [(rf_MO mo mw ma mf m0 m1 mu mv u0 u1 iz (0) mb mn mpt mbg mwr mwk mlf men)]) (n := 2) [1, 0] hP hD rfl rfl (by decide +kernel) ty_mva
    refine ty_Ki hP hD hS hA (va_runV (As := [.int 0, .int 1]) (rest := []) ⟨hx, hb, hml, hown, hts⟩ (m_throwsIf_0 l D ct S ws_3 ph xx mo mw ma mf m0 m1 mu mv u0 u1 iz mb mn mpt mbg mwr mwk mlf men (0 : Int32) (1 : Int32) _ hT hph hy1 (by decide)) (cm_V 2 hts kc_X11_throwsIf ki_RX11 kl_RX11_328 kv_X11_throwsIf kx_X11_throwsIf kd_X11_throwsIf ⟨Nat.le_of_ble_eq_true rfl, Nat.le_of_ble_eq_true rfl⟩) (ty_preE (ci := 11) (q0 := 1) hP hK hD hS hA hX rfl rfl) rfl rfl hl.1 rfl (lv_room (Nat.le_of_ble_eq_true rfl)) dX11_setting_24 ⟨Nat.le_of_ble_eq_true rfl, Nat.le_of_ble_eq_true rfl⟩) (fun r_5 u H locs hw_6 hP hD hS => ?_)
    obtain ⟨ws_7, th1_8⟩ := u
    obtain ⟨hT, hp_9⟩ := hw_6
    have hp_9 : ((r_5 = 0 ∧ (0 : Int32) = 0 ∧ th1_8 = 0) ∨ (r_5 = 1 ∧ ¬ (0 : Int32) = 0 ∧ th1_8 = (1 : Int32))) := hp_9
    obtain ⟨hP, hD⟩ := ty_shPD (w2 := ([(rf_RW ct 0 mw 958 f), (rf_MO mo mw ma mf m0 m1 mu mv u0 u1 iz th1_8 mb mn mpt mbg mwr mwk mlf men)] ++ ws_7)) hP hD rfl
    rcases hp_9 with ⟨rfl, hz_10⟩ | ⟨rfl, hz_11⟩
    · have he_12 := hz_10.2
      have hP : va_P D vwCl ([(rf_RW ct 0 mw 958 f), (rf_MO mo mw ma mf m0 m1 mu mv u0 u1 iz (0) mb mn mpt mbg mwr mwk mlf men)] ++ ws_7) H := by rw [he_12] at hP; exact hP
      have hD : va_D A ([(rf_RW ct 0 mw 958 f), (rf_MO mo mw ma mf m0 m1 mu mv u0 u1 iz (0) mb mn mpt mbg mwr mwk mlf men)] ++ ws_7) := by rw [he_12] at hD; exact hD
      refine lv_if_eq (tgt := 34) hx hb dX11_setting_27 (by decide) (fun _ => ?_) (fun hc => absurd (by decide) hc)
      refine lv_aload_n hx hb dX11_setting_34 rfl (lv_at hl 0 rfl) ?_
      refine va_get (v := .ref mw) (D := D) (ci := 11) (C := RX11) (T := TX11) (N := 19) hx hb hts in_X11 hown hK hP 1 rfl rfl 0 (by decide) (hts _ kl_RX11_9) (fun _ h9 => h9) rfl dX11_setting_35 ?_
      refine lv_iload_n hx hb dX11_setting_38 rfl (lv_at hl 1 rfl) ?_
      refine va_iald hx hb hK hP 0 0 rfl rfl (rf_in1 (by have := (rf_rngc (L := 0) (U := 7) (by decide) (by decide) hc_4); omega)) dX11_setting_39 ?_
      obtain ⟨hP, hD⟩ := ty_ordPD (E2 := [(rf_MO mo mw ma mf m0 m1 mu mv u0 u1 iz (0) mb mn mpt mbg mwr mwk mlf men), (rf_RW ct 0 mw 958 f)]) (n := 2) [1, 0] hP hD rfl rfl (by decide +kernel)
      exact W.iret (v := (f p1.toNatClampNeg)) hx hb hr (fun t ht hW => ⟨⟨(f p1.toNatClampNeg), (ws_7, (0 : Int32)), rfl, ⟨hT, (Or.inl ⟨hc_4, ⟨th1_8, trivial, ⟨hz_10, ⟨rfl, rfl⟩⟩⟩⟩)⟩, by rw [ht]; exact hP, by rw [hAe]; exact hD⟩, hS.F ht⟩) hS.2.2 dX11_setting_40
    · exact absurd rfl hz_11.1
  · refine lv_iconst (v := 1) hx hb dX11_setting_18 (by decide) ?_
    refine lv_goto (tgt := 23) hx hb dX11_setting_19 (by decide) ?_
    refine lv_iconst (v := 1) hx hb dX11_setting_23 (by decide) ?_
    obtain ⟨hP, hD⟩ := ty_opPD (E1 := [(rf_RW ct 0 mw 958 f)]) (E2 := [(rf_MO mo mw ma mf m0 m1 mu mv u0 u1 iz (0) mb mn mpt mbg mwr mwk mlf men)]) (n := 2) [1, 0] hP hD rfl rfl (by decide +kernel) ty_mva
    refine ty_Ki hP hD hS hA (va_runV (As := [.int 1, .int 1]) (rest := []) ⟨hx, hb, hml, hown, hts⟩ (m_throwsIf_0 l D ct S ws_3 ph xx mo mw ma mf m0 m1 mu mv u0 u1 iz mb mn mpt mbg mwr mwk mlf men (1 : Int32) (1 : Int32) _ hT hph hy1 (by decide)) (cm_V 2 hts kc_X11_throwsIf ki_RX11 kl_RX11_328 kv_X11_throwsIf kx_X11_throwsIf kd_X11_throwsIf ⟨Nat.le_of_ble_eq_true rfl, Nat.le_of_ble_eq_true rfl⟩) (ty_preE (ci := 11) (q0 := 1) hP hK hD hS hA hX rfl rfl) rfl rfl hl.1 rfl (lv_room (Nat.le_of_ble_eq_true rfl)) dX11_setting_24 ⟨Nat.le_of_ble_eq_true rfl, Nat.le_of_ble_eq_true rfl⟩) (fun r_13 u H locs hw_14 hP hD hS => ?_)
    obtain ⟨ws_15, th1_16⟩ := u
    obtain ⟨hT, hp_17⟩ := hw_14
    have hp_17 : ((r_13 = 0 ∧ (1 : Int32) = 0 ∧ th1_16 = 0) ∨ (r_13 = 1 ∧ ¬ (1 : Int32) = 0 ∧ th1_16 = (1 : Int32))) := hp_17
    obtain ⟨hP, hD⟩ := ty_shPD (w2 := ([(rf_RW ct 0 mw 958 f), (rf_MO mo mw ma mf m0 m1 mu mv u0 u1 iz th1_16 mb mn mpt mbg mwr mwk mlf men)] ++ ws_15)) hP hD rfl
    rcases hp_17 with ⟨rfl, hz_18⟩ | ⟨rfl, hz_19⟩
    · exact absurd hz_18.1 (by decide)
    · have he_20 := hz_19.2
      have hP : va_P D vwCl ([(rf_RW ct 0 mw 958 f), (rf_MO mo mw ma mf m0 m1 mu mv u0 u1 iz (1) mb mn mpt mbg mwr mwk mlf men)] ++ ws_15) H := by rw [he_20] at hP; exact hP
      have hD : va_D A ([(rf_RW ct 0 mw 958 f), (rf_MO mo mw ma mf m0 m1 mu mv u0 u1 iz (1) mb mn mpt mbg mwr mwk mlf men)] ++ ws_15) := by rw [he_20] at hD; exact hD
      refine lv_if_eq (tgt := 34) hx hb dX11_setting_27 (by decide) (fun hc => absurd hc (by decide)) (fun _ => ?_)
      refine lv_iconst (v := 0) hx hb dX11_setting_30 (by decide) ?_
      refine lv_goto (tgt := 40) hx hb dX11_setting_31 (by decide) ?_
      obtain ⟨hP, hD⟩ := ty_ordPD (E2 := [(rf_MO mo mw ma mf m0 m1 mu mv u0 u1 iz (1) mb mn mpt mbg mwr mwk mlf men), (rf_RW ct 0 mw 958 f)]) (n := 2) [1, 0] hP hD rfl rfl (by decide +kernel)
      exact W.iret (v := 0) hx hb hr (fun t ht hW => ⟨⟨0, (ws_15, (1 : Int32)), rfl, ⟨hT, (Or.inr ⟨hc_4, ⟨th1_16, trivial, ⟨hz_19, ⟨rfl, rfl⟩⟩⟩⟩)⟩, by rw [ht]; exact hP, by rw [hAe]; exact hD⟩, hS.F ht⟩) hS.2.2 dX11_setting_40
def q_X11_setAmbient (f : Nat → Int32) (p1 : Int32) (r : Int32) (th1 : Int32) (f1 : Nat → Int32) : Prop := ((¬ (cm_rng p1.toInt64 0 500) = (0 : Int32) ∧ (∃ (th1_8 : Int32), True ∧ (((0 : Int32) = 0 ∧ th1_8 = 0) ∧ (∃ (f_13 : Nat → Int32), (upd f (7 : Int32).toNatClampNeg p1) = f_13 ∧ (r = (f 7) ∧ th1 = 0 ∧ f1 = f_13))))) ∨ ((cm_rng p1.toInt64 0 500) = (0 : Int32) ∧ (∃ (th1_21 : Int32), True ∧ ((¬ (1 : Int32) = 0 ∧ th1_21 = (1 : Int32)) ∧ (r = 0 ∧ th1 = 1 ∧ f1 = f)))))
set_option maxRecDepth 100000 in
set_option maxHeartbeats 4000000 in
theorem m_X11_setAmbient (l : Launch) (D : va_G) (ct : Nat → ClassId) (S : ty_S) (ws : va_W) (ph : va_W → Prop) (xx : Nat → Nat → Nat → Prop) (mo : Nat) (mw : Nat) (ma : Nat) (mf : Nat) (m0 : Nat) (m1 : Nat) (mu : Nat) (mv : Nat) (u0 : Nat) (u1 : Nat) (iz : Nat) (mb : Nat) (th : Int32) (mn : Int32) (mpt : Int32) (mbg : Int32) (mwr : Int32) (mwk : Int32) (mlf : Int32) (men : Int32) (f : Nat → Int32) (G : Nat → Int32) (cx : Int) (p1 : Int32) (sz : Nat) (hT : ty_V ct S ph ws) (hph : ty_C ph xx) (hy1 : ty_y1 xx) (hR : rf_R G cx f) : Met l yX11_setAmbient (ws_ yX11_setAmbient cX11_setAmbient 3 (some .int)) ({ frames := 1, cells := 0, slots := 0, locals := 25 } : Room) (va_Pc [.ref mo, .int p1] (cmP D ct sz ([(rf_MO mo mw ma mf m0 m1 mu mv u0 u1 iz th mb mn mpt mbg mwr mwk mlf men), (rf_RW ct 0 mw 958 f)] ++ ws))) (va_Qi (fun (r : Int32) (u : va_W × Int32 × (Nat → Int32)) => match u with | (u9, th1, f1) => ty_V ct S ph u9 ∧ (q_X11_setAmbient f p1 r th1 f1) ∧ rf_R G cx f1 ∧ rf_sm f f1) (cmB D ([(rf_MO mo mw ma mf m0 m1 mu mv u0 u1 iz th mb mn mpt mbg mwr mwk mlf men), (rf_RW ct 0 mw 958 f)] ++ ws) sz (fun (u : va_W × Int32 × (Nat → Int32)) => match u with | (u9, th1, f1) => ([(rf_MO mo mw ma mf m0 m1 mu mv u0 u1 iz th1 mb mn mpt mbg mwr mwk mlf men), (rf_RW ct 0 mw 958 f1)] ++ u9))) (va_A ([(rf_MO mo mw ma mf m0 m1 mu mv u0 u1 iz th mb mn mpt mbg mwr mwk mlf men), (rf_RW ct 0 mw 958 f)] ++ ws) sz)) 0 0 (va_A ([(rf_MO mo mw ma mf m0 m1 mu mv u0 u1 iz th mb mn mpt mbg mwr mwk mlf men), (rf_RW ct 0 mw 958 f)] ++ ws) sz) := by
  refine Met.ofW (cc := cX11_setAmbient) (maxL := 3) (ret := (some .int)) (by decide) rfl ?_
  intro p e s m args below meth c s₁ B hml hv
  obtain ⟨rfl, hsz, hP, hK, hD0, hX⟩ := hv
  have hx := B.exec
  have hb := B.bytes
  have hr := B.returns
  have hts := ws_all (atoms_spec (ws := ws_ yX11_setAmbient cX11_setAmbient 3 (some .int)) B.pre)
  have hown : s.vm.findClass RX11 = some m.cls := findClass_of_methodNamed B.named
  have hlocks := B.notSynchronized
  subst hsz
  have hD := hD0.self (sz := s.heap.size)
  generalize hAe : va_A ([(rf_MO mo mw ma mf m0 m1 mu mv u0 u1 iz th mb mn mpt mbg mwr mwk mlf men), (rf_RW ct 0 mw 958 f)] ++ ws) s.heap.size = A at hD hX ⊢
  have hA : ∀ q : Nat, s.heap.size ≤ q → A q := fun q h => by rw [← hAe]; exact Or.inr h
  have hS : va_S A s.heap s.heap [] := va_S.rf
  have hl := lv_entry ([.ref mo, .int p1]) (n := 3) (Nat.le_of_ble_eq_true rfl)
  rw [lg_entry_eq]
  generalize (lg_sl ([.ref mo, .int p1]) ++ List.replicate (3 - (lg_sl ([.ref mo, .int p1])).length) Slot.unset).toArray = ls at hl ⊢
  have hl : lv_has ls 3 [(0, .ref mo), (1, .int p1)] := hl
  refine lv_aload_n hx hb dX11_setAmbient_0 rfl (lv_at hl 0 rfl) ?_
  refine lv_iconst (v := 0) hx hb dX11_setAmbient_1 (by decide) ?_
  refine va_put (v := .int 0) (ty := .int) (D := D) (ci := 11) (C := RX11) (T := TX11) (N := 19) hx hb hts in_X11 tyX11 tyX11_ok nmX11 hown hK hP hD hS 0 rfl rfl 10 (by decide) (hts _ kl_RX11_49) (fun _ h9 => h9) rfl (by decide +kernel) rfl rfl (Nat.le_of_ble_eq_true rfl) dX11_setAmbient_2 (fun H locs hP hD hS => ?_)
  have hP : va_P D vwCl ([(rf_MO mo mw ma mf m0 m1 mu mv u0 u1 iz (0) mb mn mpt mbg mwr mwk mlf men), (rf_RW ct 0 mw 958 f)] ++ ws) H := hP
  have hD : va_D A ([(rf_MO mo mw ma mf m0 m1 mu mv u0 u1 iz (0) mb mn mpt mbg mwr mwk mlf men), (rf_RW ct 0 mw 958 f)] ++ ws) := hD
  refine lv_aload_n hx hb dX11_setAmbient_5 rfl (lv_at hl 0 rfl) ?_
  refine lv_iload_n hx hb dX11_setAmbient_6 rfl (lv_at hl 1 rfl) ?_
  refine lv_i2l hx hb dX11_setAmbient_7 rfl ?_
  refine lv_lconst (v := 0) hx hb dX11_setAmbient_8 (by decide) ?_
  refine lv_ldc2 hx hb hown (hts _ kl_RX11_334) dX11_setAmbient_9 ?_
  obtain ⟨hP, hD⟩ := ty_ipPD (E1 := [(rf_MO mo mw ma mf m0 m1 mu mv u0 u1 iz (0) mb mn mpt mbg mwr mwk mlf men), (rf_RW ct 0 mw 958 f)]) (E2 := []) hP hD rfl ty_mva
  refine ty_Ki hP hD hS hA (va_runS (As := [.long p1.toInt64, .long 0, .long 500]) (rest := [.ref mo]) ⟨hx, hb, hml, hown, hts⟩ (m_X11_in l D ct S ws ph xx p1.toInt64 (0 : Int64) (500 : Int64) _ hT hph hy1) (cm_S 3 hts kc_X11_in ki_RX11 kl_RX11_70 ks_X11_in kd_X11_in ⟨Nat.le_of_ble_eq_true rfl, Nat.le_of_ble_eq_true rfl⟩) (ty_preS hP hK hD hS hA hX) rfl rfl hl.1 rfl (lv_room (Nat.le_of_ble_eq_true rfl)) dX11_setAmbient_12 ⟨Nat.le_of_ble_eq_true rfl, Nat.le_of_ble_eq_true rfl⟩) (fun r_1 u H locs hw_2 hP hD hS => ?_)
  obtain ⟨ws_3, rfl⟩ : ∃ z, z = u := ⟨_, rfl⟩
  obtain ⟨hT, rfl⟩ := hw_2
  obtain ⟨hP, hD⟩ := ty_shPD (w2 := ([(rf_MO mo mw ma mf m0 m1 mu mv u0 u1 iz (0) mb mn mpt mbg mwr mwk mlf men), (rf_RW ct 0 mw 958 f)] ++ ws_3)) hP hD rfl
  refine lv_if_ne (tgt := 22) hx hb dX11_setAmbient_15 (by decide) (fun hc_4 => ?_) (fun hc_4 => ?_)
  · refine lv_iconst (v := 0) hx hb dX11_setAmbient_22 (by decide) ?_
    refine lv_iconst (v := 1) hx hb dX11_setAmbient_23 (by decide) ?_
    obtain ⟨hP, hD⟩ := ty_opPD (E1 := [(rf_RW ct 0 mw 958 f)]) (E2 := [(rf_MO mo mw ma mf m0 m1 mu mv u0 u1 iz (0) mb mn mpt mbg mwr mwk mlf men)]) (n := 2) [1, 0] hP hD rfl rfl (by decide +kernel) ty_mva
    refine ty_Ki hP hD hS hA (va_runV (As := [.int 0, .int 1]) (rest := []) ⟨hx, hb, hml, hown, hts⟩ (m_throwsIf_0 l D ct S ws_3 ph xx mo mw ma mf m0 m1 mu mv u0 u1 iz mb mn mpt mbg mwr mwk mlf men (0 : Int32) (1 : Int32) _ hT hph hy1 (by decide)) (cm_V 2 hts kc_X11_throwsIf ki_RX11 kl_RX11_328 kv_X11_throwsIf kx_X11_throwsIf kd_X11_throwsIf ⟨Nat.le_of_ble_eq_true rfl, Nat.le_of_ble_eq_true rfl⟩) (ty_preE (ci := 11) (q0 := 1) hP hK hD hS hA hX rfl rfl) rfl rfl hl.1 rfl (lv_room (Nat.le_of_ble_eq_true rfl)) dX11_setAmbient_24 ⟨Nat.le_of_ble_eq_true rfl, Nat.le_of_ble_eq_true rfl⟩) (fun r_5 u H locs hw_6 hP hD hS => ?_)
    obtain ⟨ws_7, th1_8⟩ := u
    obtain ⟨hT, hp_9⟩ := hw_6
    have hp_9 : ((r_5 = 0 ∧ (0 : Int32) = 0 ∧ th1_8 = 0) ∨ (r_5 = 1 ∧ ¬ (0 : Int32) = 0 ∧ th1_8 = (1 : Int32))) := hp_9
    obtain ⟨hP, hD⟩ := ty_shPD (w2 := ([(rf_RW ct 0 mw 958 f), (rf_MO mo mw ma mf m0 m1 mu mv u0 u1 iz th1_8 mb mn mpt mbg mwr mwk mlf men)] ++ ws_7)) hP hD rfl
    rcases hp_9 with ⟨rfl, hz_10⟩ | ⟨rfl, hz_11⟩
    · have he_12 := hz_10.2
      have hP : va_P D vwCl ([(rf_RW ct 0 mw 958 f), (rf_MO mo mw ma mf m0 m1 mu mv u0 u1 iz (0) mb mn mpt mbg mwr mwk mlf men)] ++ ws_7) H := by rw [he_12] at hP; exact hP
      have hD : va_D A ([(rf_RW ct 0 mw 958 f), (rf_MO mo mw ma mf m0 m1 mu mv u0 u1 iz (0) mb mn mpt mbg mwr mwk mlf men)] ++ ws_7) := by rw [he_12] at hD; exact hD
      refine lv_if_eq (tgt := 32) hx hb dX11_setAmbient_27 (by decide) (fun _ => ?_) (fun hc => absurd (by decide) hc)
      refine lv_aload_n hx hb dX11_setAmbient_32 rfl (lv_at hl 0 rfl) ?_
      refine va_get (v := .ref mw) (D := D) (ci := 11) (C := RX11) (T := TX11) (N := 19) hx hb hts in_X11 hown hK hP 1 rfl rfl 0 (by decide) (hts _ kl_RX11_9) (fun _ h9 => h9) rfl dX11_setAmbient_33 ?_
      refine lv_bipush (v := 7) hx hb dX11_setAmbient_36 (by decide) ?_
      refine va_iald hx hb hK hP 0 0 rfl rfl (cm_vin (by decide)) dX11_setAmbient_38 ?_
      refine cm_cst (y := (f 7)) (by first | rfl | decide +kernel) ?_
      refine lv_istore_n (lv' := [(2, .int (f 7)), (0, .ref mo), (1, .int p1)]) hx hb dX11_setAmbient_39 rfl hl (by decide) rfl (fun ls hl => ?_)
      refine lv_aload_n hx hb dX11_setAmbient_40 rfl (lv_at hl 1 rfl) ?_
      refine va_get (v := .ref mw) (D := D) (ci := 11) (C := RX11) (T := TX11) (N := 19) hx hb hts in_X11 hown hK hP 1 rfl rfl 0 (by decide) (hts _ kl_RX11_9) (fun _ h9 => h9) rfl dX11_setAmbient_41 ?_
      refine lv_bipush (v := 7) hx hb dX11_setAmbient_44 (by decide) ?_
      refine lv_iload_n hx hb dX11_setAmbient_46 rfl (lv_at hl 2 rfl) ?_
      refine va_iast hx hb hK hP hD hS 0 0 rfl rfl (cm_vin (by decide)) dX11_setAmbient_47 (fun H locs hP hD hS => ?_)
      have hP : va_P D vwCl ([(rf_RW ct 0 mw 958 (upd f (7 : Int32).toNatClampNeg p1)), (rf_MO mo mw ma mf m0 m1 mu mv u0 u1 iz (0) mb mn mpt mbg mwr mwk mlf men)] ++ ws_7) H := hP
      have hD : va_D A ([(rf_RW ct 0 mw 958 (upd f (7 : Int32).toNatClampNeg p1)), (rf_MO mo mw ma mf m0 m1 mu mv u0 u1 iz (0) mb mn mpt mbg mwr mwk mlf men)] ++ ws_7) := hD
      have hU_14 : rf_R G cx (upd f (7 : Int32).toNatClampNeg p1) ∧ rf_sm f (upd f (7 : Int32).toNatClampNeg p1) := (rf_free _ hR (Or.inl (by decide)))
      generalize hf_17 : (upd f (7 : Int32).toNatClampNeg p1) = f_13 at hP hD hU_14
      have hR_15 := hU_14.1
      have hM_16 := rf_smt (rf_smr f) hU_14.2
      refine lv_iload_n hx hb dX11_setAmbient_48 rfl (lv_at hl 0 rfl) ?_
      obtain ⟨hP, hD⟩ := ty_ordPD (E2 := [(rf_MO mo mw ma mf m0 m1 mu mv u0 u1 iz (0) mb mn mpt mbg mwr mwk mlf men), (rf_RW ct 0 mw 958 f_13)]) (n := 2) [1, 0] hP hD rfl rfl (by decide +kernel)
      exact W.iret (v := (f 7)) hx hb hr (fun t ht hW => ⟨⟨(f 7), (ws_7, (0 : Int32), f_13), rfl, ⟨hT, ⟨(Or.inl ⟨hc_4, ⟨th1_8, trivial, ⟨hz_10, ⟨f_13, hf_17, ⟨rfl, rfl, rfl⟩⟩⟩⟩⟩), ⟨hR_15, hM_16⟩⟩⟩, by rw [ht]; exact hP, by rw [hAe]; exact hD⟩, hS.F ht⟩) hS.2.2 dX11_setAmbient_49
    · exact absurd rfl hz_11.1
  · refine lv_iconst (v := 1) hx hb dX11_setAmbient_18 (by decide) ?_
    refine lv_goto (tgt := 23) hx hb dX11_setAmbient_19 (by decide) ?_
    refine lv_iconst (v := 1) hx hb dX11_setAmbient_23 (by decide) ?_
    obtain ⟨hP, hD⟩ := ty_opPD (E1 := [(rf_RW ct 0 mw 958 f)]) (E2 := [(rf_MO mo mw ma mf m0 m1 mu mv u0 u1 iz (0) mb mn mpt mbg mwr mwk mlf men)]) (n := 2) [1, 0] hP hD rfl rfl (by decide +kernel) ty_mva
    refine ty_Ki hP hD hS hA (va_runV (As := [.int 1, .int 1]) (rest := []) ⟨hx, hb, hml, hown, hts⟩ (m_throwsIf_0 l D ct S ws_3 ph xx mo mw ma mf m0 m1 mu mv u0 u1 iz mb mn mpt mbg mwr mwk mlf men (1 : Int32) (1 : Int32) _ hT hph hy1 (by decide)) (cm_V 2 hts kc_X11_throwsIf ki_RX11 kl_RX11_328 kv_X11_throwsIf kx_X11_throwsIf kd_X11_throwsIf ⟨Nat.le_of_ble_eq_true rfl, Nat.le_of_ble_eq_true rfl⟩) (ty_preE (ci := 11) (q0 := 1) hP hK hD hS hA hX rfl rfl) rfl rfl hl.1 rfl (lv_room (Nat.le_of_ble_eq_true rfl)) dX11_setAmbient_24 ⟨Nat.le_of_ble_eq_true rfl, Nat.le_of_ble_eq_true rfl⟩) (fun r_18 u H locs hw_19 hP hD hS => ?_)
    obtain ⟨ws_20, th1_21⟩ := u
    obtain ⟨hT, hp_22⟩ := hw_19
    have hp_22 : ((r_18 = 0 ∧ (1 : Int32) = 0 ∧ th1_21 = 0) ∨ (r_18 = 1 ∧ ¬ (1 : Int32) = 0 ∧ th1_21 = (1 : Int32))) := hp_22
    obtain ⟨hP, hD⟩ := ty_shPD (w2 := ([(rf_RW ct 0 mw 958 f), (rf_MO mo mw ma mf m0 m1 mu mv u0 u1 iz th1_21 mb mn mpt mbg mwr mwk mlf men)] ++ ws_20)) hP hD rfl
    rcases hp_22 with ⟨rfl, hz_23⟩ | ⟨rfl, hz_24⟩
    · exact absurd hz_23.1 (by decide)
    · have he_25 := hz_24.2
      have hP : va_P D vwCl ([(rf_RW ct 0 mw 958 f), (rf_MO mo mw ma mf m0 m1 mu mv u0 u1 iz (1) mb mn mpt mbg mwr mwk mlf men)] ++ ws_20) H := by rw [he_25] at hP; exact hP
      have hD : va_D A ([(rf_RW ct 0 mw 958 f), (rf_MO mo mw ma mf m0 m1 mu mv u0 u1 iz (1) mb mn mpt mbg mwr mwk mlf men)] ++ ws_20) := by rw [he_25] at hD; exact hD
      refine lv_if_eq (tgt := 32) hx hb dX11_setAmbient_27 (by decide) (fun hc => absurd hc (by decide)) (fun _ => ?_)
      refine lv_iconst (v := 0) hx hb dX11_setAmbient_30 (by decide) ?_
      obtain ⟨hP, hD⟩ := ty_ordPD (E2 := [(rf_MO mo mw ma mf m0 m1 mu mv u0 u1 iz (1) mb mn mpt mbg mwr mwk mlf men), (rf_RW ct 0 mw 958 f)]) (n := 2) [1, 0] hP hD rfl rfl (by decide +kernel)
      exact W.iret (v := 0) hx hb hr (fun t ht hW => ⟨⟨0, (ws_20, (1 : Int32), f), rfl, ⟨hT, ⟨(Or.inr ⟨hc_4, ⟨th1_21, trivial, ⟨hz_24, ⟨rfl, rfl, rfl⟩⟩⟩⟩), ⟨hR, (rf_smr f)⟩⟩⟩, by rw [ht]; exact hP, by rw [hAe]; exact hD⟩, hS.F ht⟩) hS.2.2 dX11_setAmbient_31
def q_X11_setDerate (f : Nat → Int32) (p1 : Int32) (r : Int32) (th1 : Int32) (f1 : Nat → Int32) : Prop := ((¬ (cm_rng p1.toInt64 0 200) = (0 : Int32) ∧ (∃ (th1_8 : Int32), True ∧ (((0 : Int32) = 0 ∧ th1_8 = 0) ∧ (∃ (f_13 : Nat → Int32), (upd f (16 : Int32).toNatClampNeg p1) = f_13 ∧ (r = (f 16) ∧ th1 = 0 ∧ f1 = f_13))))) ∨ ((cm_rng p1.toInt64 0 200) = (0 : Int32) ∧ (∃ (th1_21 : Int32), True ∧ ((¬ (1 : Int32) = 0 ∧ th1_21 = (1 : Int32)) ∧ (r = 0 ∧ th1 = 1 ∧ f1 = f)))))
set_option maxRecDepth 100000 in
set_option maxHeartbeats 4000000 in
theorem m_X11_setDerate (l : Launch) (D : va_G) (ct : Nat → ClassId) (S : ty_S) (ws : va_W) (ph : va_W → Prop) (xx : Nat → Nat → Nat → Prop) (mo : Nat) (mw : Nat) (ma : Nat) (mf : Nat) (m0 : Nat) (m1 : Nat) (mu : Nat) (mv : Nat) (u0 : Nat) (u1 : Nat) (iz : Nat) (mb : Nat) (th : Int32) (mn : Int32) (mpt : Int32) (mbg : Int32) (mwr : Int32) (mwk : Int32) (mlf : Int32) (men : Int32) (f : Nat → Int32) (G : Nat → Int32) (cx : Int) (p1 : Int32) (sz : Nat) (hT : ty_V ct S ph ws) (hph : ty_C ph xx) (hy1 : ty_y1 xx) (hR : rf_R G cx f) : Met l yX11_setDerate (ws_ yX11_setDerate cX11_setDerate 3 (some .int)) ({ frames := 1, cells := 0, slots := 0, locals := 25 } : Room) (va_Pc [.ref mo, .int p1] (cmP D ct sz ([(rf_MO mo mw ma mf m0 m1 mu mv u0 u1 iz th mb mn mpt mbg mwr mwk mlf men), (rf_RW ct 0 mw 958 f)] ++ ws))) (va_Qi (fun (r : Int32) (u : va_W × Int32 × (Nat → Int32)) => match u with | (u9, th1, f1) => ty_V ct S ph u9 ∧ (q_X11_setDerate f p1 r th1 f1) ∧ rf_R G cx f1 ∧ rf_sm f f1) (cmB D ([(rf_MO mo mw ma mf m0 m1 mu mv u0 u1 iz th mb mn mpt mbg mwr mwk mlf men), (rf_RW ct 0 mw 958 f)] ++ ws) sz (fun (u : va_W × Int32 × (Nat → Int32)) => match u with | (u9, th1, f1) => ([(rf_MO mo mw ma mf m0 m1 mu mv u0 u1 iz th1 mb mn mpt mbg mwr mwk mlf men), (rf_RW ct 0 mw 958 f1)] ++ u9))) (va_A ([(rf_MO mo mw ma mf m0 m1 mu mv u0 u1 iz th mb mn mpt mbg mwr mwk mlf men), (rf_RW ct 0 mw 958 f)] ++ ws) sz)) 0 0 (va_A ([(rf_MO mo mw ma mf m0 m1 mu mv u0 u1 iz th mb mn mpt mbg mwr mwk mlf men), (rf_RW ct 0 mw 958 f)] ++ ws) sz) := by
  refine Met.ofW (cc := cX11_setDerate) (maxL := 3) (ret := (some .int)) (by decide) rfl ?_
  intro p e s m args below meth c s₁ B hml hv
  obtain ⟨rfl, hsz, hP, hK, hD0, hX⟩ := hv
  have hx := B.exec
  have hb := B.bytes
  have hr := B.returns
  have hts := ws_all (atoms_spec (ws := ws_ yX11_setDerate cX11_setDerate 3 (some .int)) B.pre)
  have hown : s.vm.findClass RX11 = some m.cls := findClass_of_methodNamed B.named
  have hlocks := B.notSynchronized
  subst hsz
  have hD := hD0.self (sz := s.heap.size)
  generalize hAe : va_A ([(rf_MO mo mw ma mf m0 m1 mu mv u0 u1 iz th mb mn mpt mbg mwr mwk mlf men), (rf_RW ct 0 mw 958 f)] ++ ws) s.heap.size = A at hD hX ⊢
  have hA : ∀ q : Nat, s.heap.size ≤ q → A q := fun q h => by rw [← hAe]; exact Or.inr h
  have hS : va_S A s.heap s.heap [] := va_S.rf
  have hl := lv_entry ([.ref mo, .int p1]) (n := 3) (Nat.le_of_ble_eq_true rfl)
  rw [lg_entry_eq]
  generalize (lg_sl ([.ref mo, .int p1]) ++ List.replicate (3 - (lg_sl ([.ref mo, .int p1])).length) Slot.unset).toArray = ls at hl ⊢
  have hl : lv_has ls 3 [(0, .ref mo), (1, .int p1)] := hl
  refine lv_aload_n hx hb dX11_setDerate_0 rfl (lv_at hl 0 rfl) ?_
  refine lv_iconst (v := 0) hx hb dX11_setDerate_1 (by decide) ?_
  refine va_put (v := .int 0) (ty := .int) (D := D) (ci := 11) (C := RX11) (T := TX11) (N := 19) hx hb hts in_X11 tyX11 tyX11_ok nmX11 hown hK hP hD hS 0 rfl rfl 10 (by decide) (hts _ kl_RX11_49) (fun _ h9 => h9) rfl (by decide +kernel) rfl rfl (Nat.le_of_ble_eq_true rfl) dX11_setDerate_2 (fun H locs hP hD hS => ?_)
  have hP : va_P D vwCl ([(rf_MO mo mw ma mf m0 m1 mu mv u0 u1 iz (0) mb mn mpt mbg mwr mwk mlf men), (rf_RW ct 0 mw 958 f)] ++ ws) H := hP
  have hD : va_D A ([(rf_MO mo mw ma mf m0 m1 mu mv u0 u1 iz (0) mb mn mpt mbg mwr mwk mlf men), (rf_RW ct 0 mw 958 f)] ++ ws) := hD
  refine lv_aload_n hx hb dX11_setDerate_5 rfl (lv_at hl 0 rfl) ?_
  refine lv_iload_n hx hb dX11_setDerate_6 rfl (lv_at hl 1 rfl) ?_
  refine lv_i2l hx hb dX11_setDerate_7 rfl ?_
  refine lv_lconst (v := 0) hx hb dX11_setDerate_8 (by decide) ?_
  refine lv_ldc2 hx hb hown (hts _ kl_RX11_336) dX11_setDerate_9 ?_
  obtain ⟨hP, hD⟩ := ty_ipPD (E1 := [(rf_MO mo mw ma mf m0 m1 mu mv u0 u1 iz (0) mb mn mpt mbg mwr mwk mlf men), (rf_RW ct 0 mw 958 f)]) (E2 := []) hP hD rfl ty_mva
  refine ty_Ki hP hD hS hA (va_runS (As := [.long p1.toInt64, .long 0, .long 200]) (rest := [.ref mo]) ⟨hx, hb, hml, hown, hts⟩ (m_X11_in l D ct S ws ph xx p1.toInt64 (0 : Int64) (200 : Int64) _ hT hph hy1) (cm_S 3 hts kc_X11_in ki_RX11 kl_RX11_70 ks_X11_in kd_X11_in ⟨Nat.le_of_ble_eq_true rfl, Nat.le_of_ble_eq_true rfl⟩) (ty_preS hP hK hD hS hA hX) rfl rfl hl.1 rfl (lv_room (Nat.le_of_ble_eq_true rfl)) dX11_setDerate_12 ⟨Nat.le_of_ble_eq_true rfl, Nat.le_of_ble_eq_true rfl⟩) (fun r_1 u H locs hw_2 hP hD hS => ?_)
  obtain ⟨ws_3, rfl⟩ : ∃ z, z = u := ⟨_, rfl⟩
  obtain ⟨hT, rfl⟩ := hw_2
  obtain ⟨hP, hD⟩ := ty_shPD (w2 := ([(rf_MO mo mw ma mf m0 m1 mu mv u0 u1 iz (0) mb mn mpt mbg mwr mwk mlf men), (rf_RW ct 0 mw 958 f)] ++ ws_3)) hP hD rfl
  refine lv_if_ne (tgt := 22) hx hb dX11_setDerate_15 (by decide) (fun hc_4 => ?_) (fun hc_4 => ?_)
  · refine lv_iconst (v := 0) hx hb dX11_setDerate_22 (by decide) ?_
    refine lv_iconst (v := 1) hx hb dX11_setDerate_23 (by decide) ?_
    obtain ⟨hP, hD⟩ := ty_opPD (E1 := [(rf_RW ct 0 mw 958 f)]) (E2 := [(rf_MO mo mw ma mf m0 m1 mu mv u0 u1 iz (0) mb mn mpt mbg mwr mwk mlf men)]) (n := 2) [1, 0] hP hD rfl rfl (by decide +kernel) ty_mva
    refine ty_Ki hP hD hS hA (va_runV (As := [.int 0, .int 1]) (rest := []) ⟨hx, hb, hml, hown, hts⟩ (m_throwsIf_0 l D ct S ws_3 ph xx mo mw ma mf m0 m1 mu mv u0 u1 iz mb mn mpt mbg mwr mwk mlf men (0 : Int32) (1 : Int32) _ hT hph hy1 (by decide)) (cm_V 2 hts kc_X11_throwsIf ki_RX11 kl_RX11_328 kv_X11_throwsIf kx_X11_throwsIf kd_X11_throwsIf ⟨Nat.le_of_ble_eq_true rfl, Nat.le_of_ble_eq_true rfl⟩) (ty_preE (ci := 11) (q0 := 1) hP hK hD hS hA hX rfl rfl) rfl rfl hl.1 rfl (lv_room (Nat.le_of_ble_eq_true rfl)) dX11_setDerate_24 ⟨Nat.le_of_ble_eq_true rfl, Nat.le_of_ble_eq_true rfl⟩) (fun r_5 u H locs hw_6 hP hD hS => ?_)
    obtain ⟨ws_7, th1_8⟩ := u
    obtain ⟨hT, hp_9⟩ := hw_6
    have hp_9 : ((r_5 = 0 ∧ (0 : Int32) = 0 ∧ th1_8 = 0) ∨ (r_5 = 1 ∧ ¬ (0 : Int32) = 0 ∧ th1_8 = (1 : Int32))) := hp_9
    obtain ⟨hP, hD⟩ := ty_shPD (w2 := ([(rf_RW ct 0 mw 958 f), (rf_MO mo mw ma mf m0 m1 mu mv u0 u1 iz th1_8 mb mn mpt mbg mwr mwk mlf men)] ++ ws_7)) hP hD rfl
    rcases hp_9 with ⟨rfl, hz_10⟩ | ⟨rfl, hz_11⟩
    · have he_12 := hz_10.2
      have hP : va_P D vwCl ([(rf_RW ct 0 mw 958 f), (rf_MO mo mw ma mf m0 m1 mu mv u0 u1 iz (0) mb mn mpt mbg mwr mwk mlf men)] ++ ws_7) H := by rw [he_12] at hP; exact hP
      have hD : va_D A ([(rf_RW ct 0 mw 958 f), (rf_MO mo mw ma mf m0 m1 mu mv u0 u1 iz (0) mb mn mpt mbg mwr mwk mlf men)] ++ ws_7) := by rw [he_12] at hD; exact hD
      refine lv_if_eq (tgt := 32) hx hb dX11_setDerate_27 (by decide) (fun _ => ?_) (fun hc => absurd (by decide) hc)
      refine lv_aload_n hx hb dX11_setDerate_32 rfl (lv_at hl 0 rfl) ?_
      refine va_get (v := .ref mw) (D := D) (ci := 11) (C := RX11) (T := TX11) (N := 19) hx hb hts in_X11 hown hK hP 1 rfl rfl 0 (by decide) (hts _ kl_RX11_9) (fun _ h9 => h9) rfl dX11_setDerate_33 ?_
      refine lv_bipush (v := 16) hx hb dX11_setDerate_36 (by decide) ?_
      refine va_iald hx hb hK hP 0 0 rfl rfl (cm_vin (by decide)) dX11_setDerate_38 ?_
      refine cm_cst (y := (f 16)) (by first | rfl | decide +kernel) ?_
      refine lv_istore_n (lv' := [(2, .int (f 16)), (0, .ref mo), (1, .int p1)]) hx hb dX11_setDerate_39 rfl hl (by decide) rfl (fun ls hl => ?_)
      refine lv_aload_n hx hb dX11_setDerate_40 rfl (lv_at hl 1 rfl) ?_
      refine va_get (v := .ref mw) (D := D) (ci := 11) (C := RX11) (T := TX11) (N := 19) hx hb hts in_X11 hown hK hP 1 rfl rfl 0 (by decide) (hts _ kl_RX11_9) (fun _ h9 => h9) rfl dX11_setDerate_41 ?_
      refine lv_bipush (v := 16) hx hb dX11_setDerate_44 (by decide) ?_
      refine lv_iload_n hx hb dX11_setDerate_46 rfl (lv_at hl 2 rfl) ?_
      refine va_iast hx hb hK hP hD hS 0 0 rfl rfl (cm_vin (by decide)) dX11_setDerate_47 (fun H locs hP hD hS => ?_)
      have hP : va_P D vwCl ([(rf_RW ct 0 mw 958 (upd f (16 : Int32).toNatClampNeg p1)), (rf_MO mo mw ma mf m0 m1 mu mv u0 u1 iz (0) mb mn mpt mbg mwr mwk mlf men)] ++ ws_7) H := hP
      have hD : va_D A ([(rf_RW ct 0 mw 958 (upd f (16 : Int32).toNatClampNeg p1)), (rf_MO mo mw ma mf m0 m1 mu mv u0 u1 iz (0) mb mn mpt mbg mwr mwk mlf men)] ++ ws_7) := hD
      have hU_14 : rf_R G cx (upd f (16 : Int32).toNatClampNeg p1) ∧ rf_sm f (upd f (16 : Int32).toNatClampNeg p1) := (rf_num _ hR (Or.inr (Or.inl ⟨by decide, (rf_rngc (L := 0) (U := 200) (by decide) (by decide) hc_4)⟩)))
      generalize hf_17 : (upd f (16 : Int32).toNatClampNeg p1) = f_13 at hP hD hU_14
      have hR_15 := hU_14.1
      have hM_16 := rf_smt (rf_smr f) hU_14.2
      refine lv_iload_n hx hb dX11_setDerate_48 rfl (lv_at hl 0 rfl) ?_
      obtain ⟨hP, hD⟩ := ty_ordPD (E2 := [(rf_MO mo mw ma mf m0 m1 mu mv u0 u1 iz (0) mb mn mpt mbg mwr mwk mlf men), (rf_RW ct 0 mw 958 f_13)]) (n := 2) [1, 0] hP hD rfl rfl (by decide +kernel)
      exact W.iret (v := (f 16)) hx hb hr (fun t ht hW => ⟨⟨(f 16), (ws_7, (0 : Int32), f_13), rfl, ⟨hT, ⟨(Or.inl ⟨hc_4, ⟨th1_8, trivial, ⟨hz_10, ⟨f_13, hf_17, ⟨rfl, rfl, rfl⟩⟩⟩⟩⟩), ⟨hR_15, hM_16⟩⟩⟩, by rw [ht]; exact hP, by rw [hAe]; exact hD⟩, hS.F ht⟩) hS.2.2 dX11_setDerate_49
    · exact absurd rfl hz_11.1
  · refine lv_iconst (v := 1) hx hb dX11_setDerate_18 (by decide) ?_
    refine lv_goto (tgt := 23) hx hb dX11_setDerate_19 (by decide) ?_
    refine lv_iconst (v := 1) hx hb dX11_setDerate_23 (by decide) ?_
    obtain ⟨hP, hD⟩ := ty_opPD (E1 := [(rf_RW ct 0 mw 958 f)]) (E2 := [(rf_MO mo mw ma mf m0 m1 mu mv u0 u1 iz (0) mb mn mpt mbg mwr mwk mlf men)]) (n := 2) [1, 0] hP hD rfl rfl (by decide +kernel) ty_mva
    refine ty_Ki hP hD hS hA (va_runV (As := [.int 1, .int 1]) (rest := []) ⟨hx, hb, hml, hown, hts⟩ (m_throwsIf_0 l D ct S ws_3 ph xx mo mw ma mf m0 m1 mu mv u0 u1 iz mb mn mpt mbg mwr mwk mlf men (1 : Int32) (1 : Int32) _ hT hph hy1 (by decide)) (cm_V 2 hts kc_X11_throwsIf ki_RX11 kl_RX11_328 kv_X11_throwsIf kx_X11_throwsIf kd_X11_throwsIf ⟨Nat.le_of_ble_eq_true rfl, Nat.le_of_ble_eq_true rfl⟩) (ty_preE (ci := 11) (q0 := 1) hP hK hD hS hA hX rfl rfl) rfl rfl hl.1 rfl (lv_room (Nat.le_of_ble_eq_true rfl)) dX11_setDerate_24 ⟨Nat.le_of_ble_eq_true rfl, Nat.le_of_ble_eq_true rfl⟩) (fun r_18 u H locs hw_19 hP hD hS => ?_)
    obtain ⟨ws_20, th1_21⟩ := u
    obtain ⟨hT, hp_22⟩ := hw_19
    have hp_22 : ((r_18 = 0 ∧ (1 : Int32) = 0 ∧ th1_21 = 0) ∨ (r_18 = 1 ∧ ¬ (1 : Int32) = 0 ∧ th1_21 = (1 : Int32))) := hp_22
    obtain ⟨hP, hD⟩ := ty_shPD (w2 := ([(rf_RW ct 0 mw 958 f), (rf_MO mo mw ma mf m0 m1 mu mv u0 u1 iz th1_21 mb mn mpt mbg mwr mwk mlf men)] ++ ws_20)) hP hD rfl
    rcases hp_22 with ⟨rfl, hz_23⟩ | ⟨rfl, hz_24⟩
    · exact absurd hz_23.1 (by decide)
    · have he_25 := hz_24.2
      have hP : va_P D vwCl ([(rf_RW ct 0 mw 958 f), (rf_MO mo mw ma mf m0 m1 mu mv u0 u1 iz (1) mb mn mpt mbg mwr mwk mlf men)] ++ ws_20) H := by rw [he_25] at hP; exact hP
      have hD : va_D A ([(rf_RW ct 0 mw 958 f), (rf_MO mo mw ma mf m0 m1 mu mv u0 u1 iz (1) mb mn mpt mbg mwr mwk mlf men)] ++ ws_20) := by rw [he_25] at hD; exact hD
      refine lv_if_eq (tgt := 32) hx hb dX11_setDerate_27 (by decide) (fun hc => absurd hc (by decide)) (fun _ => ?_)
      refine lv_iconst (v := 0) hx hb dX11_setDerate_30 (by decide) ?_
      obtain ⟨hP, hD⟩ := ty_ordPD (E2 := [(rf_MO mo mw ma mf m0 m1 mu mv u0 u1 iz (1) mb mn mpt mbg mwr mwk mlf men), (rf_RW ct 0 mw 958 f)]) (n := 2) [1, 0] hP hD rfl rfl (by decide +kernel)
      exact W.iret (v := 0) hx hb hr (fun t ht hW => ⟨⟨0, (ws_20, (1 : Int32), f), rfl, ⟨hT, ⟨(Or.inr ⟨hc_4, ⟨th1_21, trivial, ⟨hz_24, ⟨rfl, rfl, rfl⟩⟩⟩⟩), ⟨hR, (rf_smr f)⟩⟩⟩, by rw [ht]; exact hP, by rw [hAe]; exact hD⟩, hS.F ht⟩) hS.2.2 dX11_setDerate_31
def q_so (f : Nat → Int32) (lo hi : Int32) : Nat → Int32
  | 0 => 0
  | n + 1 => q_so f lo hi n + (if rf_of f (Int32.ofNat n) 0 = 1 ∧ cm_rng (rf_of f (Int32.ofNat n) 5).toInt64 lo.toInt64 hi.toInt64 = 0 then 1 else 0)
theorem q_sos {f : Nat → Int32} {lo hi y m p d : Int32} (h0 : 0 ≤ y.toInt) (h : ¬ p ≤ y) (e : m = q_so f lo hi y.toInt.toNat) (hd : d = (if rf_of f y 0 = 1 ∧ cm_rng (rf_of f y 5).toInt64 lo.toInt64 hi.toInt64 = 0 then 1 else 0)) : m + d = q_so f lo hi (y + Int32.ofInt 1).toInt.toNat := by
  rw [q_y1 h0 h]
  unfold q_so
  rw [q_ofn h0, ← e, hd]
def q_rn (f : Nat → Int32) : Nat → Int32
  | 0 => 0
  | n + 1 => q_rn f n + (if rf_of f (Int32.ofNat n) 0 = 1 then 1 else 0)
theorem q_rns {f : Nat → Int32} {y m p d : Int32} (h0 : 0 ≤ y.toInt) (h : ¬ p ≤ y) (e : m = q_rn f y.toInt.toNat) (hd : d = (if rf_of f y 0 = 1 then 1 else 0)) : m + d = q_rn f (y + Int32.ofInt 1).toInt.toNat := by
  rw [q_y1 h0 h]
  unfold q_rn
  rw [q_ofn h0, ← e, hd]
def q_is (f : Nat → Int32) (st : Int32) : Nat → Int32
  | 0 => 0
  | n + 1 => q_is f st n ||| (if rf_of f (Int32.ofNat n) 0 = st then (1 : Int32) <<< (Int32.ofNat n &&& 31) else 0)
theorem q_isT {f : Nat → Int32} {st y m p : Int32} (h0 : 0 ≤ y.toInt) (h : ¬ p ≤ y) (e : m = q_is f st y.toInt.toNat) (hs : rf_of f y 0 = st) : m ||| ((1 : Int32) <<< (y &&& 31)) = q_is f st (y + Int32.ofInt 1).toInt.toNat := by
  rw [q_y1 h0 h]
  unfold q_is
  rw [q_ofn h0, ← e, if_pos hs]
theorem q_isF {f : Nat → Int32} {st y m p : Int32} (h0 : 0 ≤ y.toInt) (h : ¬ p ≤ y) (e : m = q_is f st y.toInt.toNat) (hs : ¬ rf_of f y 0 = st) : m ||| (0 : Int32) = q_is f st (y + Int32.ofInt 1).toInt.toNat := by
  rw [q_y1 h0 h]
  unfold q_is
  rw [q_ofn h0, ← e, if_neg hs]
def q_X11_setLimits (f : Nat → Int32) (G : Nat → Int32) (p1 : Int32) (p2 : Int32) (r : Int32) (th1 : Int32) (f1 : Nat → Int32) : Prop := (((cm_rng p1.toInt64 0 5000) = (0 : Int32) ∧ (∃ (th1_8 : Int32), True ∧ ((¬ (1 : Int32) = 0 ∧ th1_8 = (1 : Int32)) ∧ (r = 0 ∧ th1 = 1 ∧ f1 = f)))) ∨ (¬ (cm_rng p1.toInt64 0 5000) = (0 : Int32) ∧ ((¬ (cm_rng p2.toInt64 p1.toInt64 5000) = (0 : Int32) ∧ (∃ (th1_20 : Int32), True ∧ (((0 : Int32) = 0 ∧ th1_20 = 0) ∧ (∃ (f_25 : Nat → Int32), (upd f (4 : Int32).toNatClampNeg p1) = f_25 ∧ (∃ (f_30 : Nat → Int32), (upd f_25 (5 : Int32).toNatClampNeg p2) = f_30 ∧ (∃ (y_35 : Int32) (y_36 : Int32), ((0 ≤ y_36.toInt ∧ y_36.toInt ≤ (G 9).toInt) ∧ y_35 = q_so f_30 p1 p2 y_36.toInt.toNat) ∧ ((f_30 9) ≤ y_36 ∧ (r = y_35 ∧ th1 = 0 ∧ f1 = f_30)))))))) ∨ ((cm_rng p2.toInt64 p1.toInt64 5000) = (0 : Int32) ∧ (∃ (th1_52 : Int32), True ∧ ((¬ (1 : Int32) = 0 ∧ th1_52 = (1 : Int32)) ∧ (r = 0 ∧ th1 = 1 ∧ f1 = f)))))))
set_option maxRecDepth 100000 in
set_option maxHeartbeats 4000000 in
theorem m_X11_setLimits (l : Launch) (D : va_G) (ct : Nat → ClassId) (S : ty_S) (ws : va_W) (ph : va_W → Prop) (xx : Nat → Nat → Nat → Prop) (mo : Nat) (mw : Nat) (ma : Nat) (mf : Nat) (m0 : Nat) (m1 : Nat) (mu : Nat) (mv : Nat) (u0 : Nat) (u1 : Nat) (iz : Nat) (mb : Nat) (th : Int32) (mn : Int32) (mpt : Int32) (mbg : Int32) (mwr : Int32) (mwk : Int32) (mlf : Int32) (men : Int32) (f : Nat → Int32) (G : Nat → Int32) (cx : Int) (p1 : Int32) (p2 : Int32) (sz : Nat) (hT : ty_V ct S ph ws) (hph : ty_C ph xx) (hy1 : ty_y1 xx) (hR : rf_R G cx f) : Met l yX11_setLimits (ws_ yX11_setLimits cX11_setLimits 5 (some .int)) ({ frames := 1, cells := 0, slots := 0, locals := 25 } : Room) (va_Pc [.ref mo, .int p1, .int p2] (cmP D ct sz ([(rf_MO mo mw ma mf m0 m1 mu mv u0 u1 iz th mb mn mpt mbg mwr mwk mlf men), (rf_RW ct 0 mw 958 f)] ++ ws))) (va_Qi (fun (r : Int32) (u : va_W × Int32 × (Nat → Int32)) => match u with | (u9, th1, f1) => ty_V ct S ph u9 ∧ (q_X11_setLimits f G p1 p2 r th1 f1) ∧ rf_R G cx f1 ∧ rf_sm f f1) (cmB D ([(rf_MO mo mw ma mf m0 m1 mu mv u0 u1 iz th mb mn mpt mbg mwr mwk mlf men), (rf_RW ct 0 mw 958 f)] ++ ws) sz (fun (u : va_W × Int32 × (Nat → Int32)) => match u with | (u9, th1, f1) => ([(rf_MO mo mw ma mf m0 m1 mu mv u0 u1 iz th1 mb mn mpt mbg mwr mwk mlf men), (rf_RW ct 0 mw 958 f1)] ++ u9))) (va_A ([(rf_MO mo mw ma mf m0 m1 mu mv u0 u1 iz th mb mn mpt mbg mwr mwk mlf men), (rf_RW ct 0 mw 958 f)] ++ ws) sz)) 0 0 (va_A ([(rf_MO mo mw ma mf m0 m1 mu mv u0 u1 iz th mb mn mpt mbg mwr mwk mlf men), (rf_RW ct 0 mw 958 f)] ++ ws) sz) := by
  refine Met.ofW (cc := cX11_setLimits) (maxL := 5) (ret := (some .int)) (by decide) rfl ?_
  intro p e s m args below meth c s₁ B hml hv
  obtain ⟨rfl, hsz, hP, hK, hD0, hX⟩ := hv
  have hx := B.exec
  have hb := B.bytes
  have hr := B.returns
  have hts := ws_all (atoms_spec (ws := ws_ yX11_setLimits cX11_setLimits 5 (some .int)) B.pre)
  have hown : s.vm.findClass RX11 = some m.cls := findClass_of_methodNamed B.named
  have hlocks := B.notSynchronized
  subst hsz
  have hD := hD0.self (sz := s.heap.size)
  generalize hAe : va_A ([(rf_MO mo mw ma mf m0 m1 mu mv u0 u1 iz th mb mn mpt mbg mwr mwk mlf men), (rf_RW ct 0 mw 958 f)] ++ ws) s.heap.size = A at hD hX ⊢
  have hA : ∀ q : Nat, s.heap.size ≤ q → A q := fun q h => by rw [← hAe]; exact Or.inr h
  have hS : va_S A s.heap s.heap [] := va_S.rf
  have hl := lv_entry ([.ref mo, .int p1, .int p2]) (n := 5) (Nat.le_of_ble_eq_true rfl)
  rw [lg_entry_eq]
  generalize (lg_sl ([.ref mo, .int p1, .int p2]) ++ List.replicate (5 - (lg_sl ([.ref mo, .int p1, .int p2])).length) Slot.unset).toArray = ls at hl ⊢
  have hl : lv_has ls 5 [(0, .ref mo), (1, .int p1), (2, .int p2)] := hl
  refine lv_aload_n hx hb dX11_setLimits_0 rfl (lv_at hl 0 rfl) ?_
  refine lv_iconst (v := 0) hx hb dX11_setLimits_1 (by decide) ?_
  refine va_put (v := .int 0) (ty := .int) (D := D) (ci := 11) (C := RX11) (T := TX11) (N := 19) hx hb hts in_X11 tyX11 tyX11_ok nmX11 hown hK hP hD hS 0 rfl rfl 10 (by decide) (hts _ kl_RX11_49) (fun _ h9 => h9) rfl (by decide +kernel) rfl rfl (Nat.le_of_ble_eq_true rfl) dX11_setLimits_2 (fun H locs hP hD hS => ?_)
  have hP : va_P D vwCl ([(rf_MO mo mw ma mf m0 m1 mu mv u0 u1 iz (0) mb mn mpt mbg mwr mwk mlf men), (rf_RW ct 0 mw 958 f)] ++ ws) H := hP
  have hD : va_D A ([(rf_MO mo mw ma mf m0 m1 mu mv u0 u1 iz (0) mb mn mpt mbg mwr mwk mlf men), (rf_RW ct 0 mw 958 f)] ++ ws) := hD
  refine lv_aload_n hx hb dX11_setLimits_5 rfl (lv_at hl 0 rfl) ?_
  refine lv_iload_n hx hb dX11_setLimits_6 rfl (lv_at hl 1 rfl) ?_
  refine lv_i2l hx hb dX11_setLimits_7 rfl ?_
  refine lv_lconst (v := 0) hx hb dX11_setLimits_8 (by decide) ?_
  refine lv_ldc2 hx hb hown (hts _ kl_RX11_338) dX11_setLimits_9 ?_
  obtain ⟨hP, hD⟩ := ty_ipPD (E1 := [(rf_MO mo mw ma mf m0 m1 mu mv u0 u1 iz (0) mb mn mpt mbg mwr mwk mlf men), (rf_RW ct 0 mw 958 f)]) (E2 := []) hP hD rfl ty_mva
  refine ty_Ki hP hD hS hA (va_runS (As := [.long p1.toInt64, .long 0, .long 5000]) (rest := [.ref mo]) ⟨hx, hb, hml, hown, hts⟩ (m_X11_in l D ct S ws ph xx p1.toInt64 (0 : Int64) (5000 : Int64) _ hT hph hy1) (cm_S 3 hts kc_X11_in ki_RX11 kl_RX11_70 ks_X11_in kd_X11_in ⟨Nat.le_of_ble_eq_true rfl, Nat.le_of_ble_eq_true rfl⟩) (ty_preS hP hK hD hS hA hX) rfl rfl hl.1 rfl (lv_room (Nat.le_of_ble_eq_true rfl)) dX11_setLimits_12 ⟨Nat.le_of_ble_eq_true rfl, Nat.le_of_ble_eq_true rfl⟩) (fun r_1 u H locs hw_2 hP hD hS => ?_)
  obtain ⟨ws_3, rfl⟩ : ∃ z, z = u := ⟨_, rfl⟩
  obtain ⟨hT, rfl⟩ := hw_2
  obtain ⟨hP, hD⟩ := ty_shPD (w2 := ([(rf_MO mo mw ma mf m0 m1 mu mv u0 u1 iz (0) mb mn mpt mbg mwr mwk mlf men), (rf_RW ct 0 mw 958 f)] ++ ws_3)) hP hD rfl
  refine lv_if_eq (tgt := 31) hx hb dX11_setLimits_15 (by decide) (fun hc_4 => ?_) (fun hc_4 => ?_)
  · refine lv_iconst (v := 1) hx hb dX11_setLimits_31 (by decide) ?_
    refine lv_goto (tgt := 36) hx hb dX11_setLimits_32 (by decide) ?_
    refine lv_iconst (v := 1) hx hb dX11_setLimits_36 (by decide) ?_
    obtain ⟨hP, hD⟩ := ty_opPD (E1 := [(rf_RW ct 0 mw 958 f)]) (E2 := [(rf_MO mo mw ma mf m0 m1 mu mv u0 u1 iz (0) mb mn mpt mbg mwr mwk mlf men)]) (n := 2) [1, 0] hP hD rfl rfl (by decide +kernel) ty_mva
    refine ty_Ki hP hD hS hA (va_runV (As := [.int 1, .int 1]) (rest := []) ⟨hx, hb, hml, hown, hts⟩ (m_throwsIf_0 l D ct S ws_3 ph xx mo mw ma mf m0 m1 mu mv u0 u1 iz mb mn mpt mbg mwr mwk mlf men (1 : Int32) (1 : Int32) _ hT hph hy1 (by decide)) (cm_V 2 hts kc_X11_throwsIf ki_RX11 kl_RX11_328 kv_X11_throwsIf kx_X11_throwsIf kd_X11_throwsIf ⟨Nat.le_of_ble_eq_true rfl, Nat.le_of_ble_eq_true rfl⟩) (ty_preE (ci := 11) (q0 := 1) hP hK hD hS hA hX rfl rfl) rfl rfl hl.1 rfl (lv_room (Nat.le_of_ble_eq_true rfl)) dX11_setLimits_37 ⟨Nat.le_of_ble_eq_true rfl, Nat.le_of_ble_eq_true rfl⟩) (fun r_5 u H locs hw_6 hP hD hS => ?_)
    obtain ⟨ws_7, th1_8⟩ := u
    obtain ⟨hT, hp_9⟩ := hw_6
    have hp_9 : ((r_5 = 0 ∧ (1 : Int32) = 0 ∧ th1_8 = 0) ∨ (r_5 = 1 ∧ ¬ (1 : Int32) = 0 ∧ th1_8 = (1 : Int32))) := hp_9
    obtain ⟨hP, hD⟩ := ty_shPD (w2 := ([(rf_RW ct 0 mw 958 f), (rf_MO mo mw ma mf m0 m1 mu mv u0 u1 iz th1_8 mb mn mpt mbg mwr mwk mlf men)] ++ ws_7)) hP hD rfl
    rcases hp_9 with ⟨rfl, hz_10⟩ | ⟨rfl, hz_11⟩
    · exact absurd hz_10.1 (by decide)
    · have he_12 := hz_11.2
      have hP : va_P D vwCl ([(rf_RW ct 0 mw 958 f), (rf_MO mo mw ma mf m0 m1 mu mv u0 u1 iz (1) mb mn mpt mbg mwr mwk mlf men)] ++ ws_7) H := by rw [he_12] at hP; exact hP
      have hD : va_D A ([(rf_RW ct 0 mw 958 f), (rf_MO mo mw ma mf m0 m1 mu mv u0 u1 iz (1) mb mn mpt mbg mwr mwk mlf men)] ++ ws_7) := by rw [he_12] at hD; exact hD
      refine lv_if_eq (tgt := 45) hx hb dX11_setLimits_40 (by decide) (fun hc => absurd hc (by decide)) (fun _ => ?_)
      refine lv_iconst (v := 0) hx hb dX11_setLimits_43 (by decide) ?_
      obtain ⟨hP, hD⟩ := ty_ordPD (E2 := [(rf_MO mo mw ma mf m0 m1 mu mv u0 u1 iz (1) mb mn mpt mbg mwr mwk mlf men), (rf_RW ct 0 mw 958 f)]) (n := 2) [1, 0] hP hD rfl rfl (by decide +kernel)
      exact W.iret (v := 0) hx hb hr (fun t ht hW => ⟨⟨0, (ws_7, (1 : Int32), f), rfl, ⟨hT, ⟨(Or.inl ⟨hc_4, ⟨th1_8, trivial, ⟨hz_11, ⟨rfl, rfl, rfl⟩⟩⟩⟩), ⟨hR, (rf_smr f)⟩⟩⟩, by rw [ht]; exact hP, by rw [hAe]; exact hD⟩, hS.F ht⟩) hS.2.2 dX11_setLimits_44
  · refine lv_iload_n hx hb dX11_setLimits_18 rfl (lv_at hl 2 rfl) ?_
    refine lv_i2l hx hb dX11_setLimits_19 rfl ?_
    refine lv_iload_n hx hb dX11_setLimits_20 rfl (lv_at hl 1 rfl) ?_
    refine lv_i2l hx hb dX11_setLimits_21 rfl ?_
    refine lv_ldc2 hx hb hown (hts _ kl_RX11_338) dX11_setLimits_22 ?_
    obtain ⟨hP, hD⟩ := ty_ipPD (E1 := [(rf_MO mo mw ma mf m0 m1 mu mv u0 u1 iz (0) mb mn mpt mbg mwr mwk mlf men), (rf_RW ct 0 mw 958 f)]) (E2 := []) hP hD rfl ty_mva
    refine ty_Ki hP hD hS hA (va_runS (As := [.long p2.toInt64, .long p1.toInt64, .long 5000]) (rest := [.ref mo]) ⟨hx, hb, hml, hown, hts⟩ (m_X11_in l D ct S ws_3 ph xx p2.toInt64 p1.toInt64 (5000 : Int64) _ hT hph hy1) (cm_S 3 hts kc_X11_in ki_RX11 kl_RX11_70 ks_X11_in kd_X11_in ⟨Nat.le_of_ble_eq_true rfl, Nat.le_of_ble_eq_true rfl⟩) (ty_preS hP hK hD hS hA hX) rfl rfl hl.1 rfl (lv_room (Nat.le_of_ble_eq_true rfl)) dX11_setLimits_25 ⟨Nat.le_of_ble_eq_true rfl, Nat.le_of_ble_eq_true rfl⟩) (fun r_13 u H locs hw_14 hP hD hS => ?_)
    obtain ⟨ws_15, rfl⟩ : ∃ z, z = u := ⟨_, rfl⟩
    obtain ⟨hT, rfl⟩ := hw_14
    obtain ⟨hP, hD⟩ := ty_shPD (w2 := ([(rf_MO mo mw ma mf m0 m1 mu mv u0 u1 iz (0) mb mn mpt mbg mwr mwk mlf men), (rf_RW ct 0 mw 958 f)] ++ ws_15)) hP hD rfl
    refine lv_if_ne (tgt := 35) hx hb dX11_setLimits_28 (by decide) (fun hc_16 => ?_) (fun hc_16 => ?_)
    · refine lv_iconst (v := 0) hx hb dX11_setLimits_35 (by decide) ?_
      refine lv_iconst (v := 1) hx hb dX11_setLimits_36 (by decide) ?_
      obtain ⟨hP, hD⟩ := ty_opPD (E1 := [(rf_RW ct 0 mw 958 f)]) (E2 := [(rf_MO mo mw ma mf m0 m1 mu mv u0 u1 iz (0) mb mn mpt mbg mwr mwk mlf men)]) (n := 2) [1, 0] hP hD rfl rfl (by decide +kernel) ty_mva
      refine ty_Ki hP hD hS hA (va_runV (As := [.int 0, .int 1]) (rest := []) ⟨hx, hb, hml, hown, hts⟩ (m_throwsIf_0 l D ct S ws_15 ph xx mo mw ma mf m0 m1 mu mv u0 u1 iz mb mn mpt mbg mwr mwk mlf men (0 : Int32) (1 : Int32) _ hT hph hy1 (by decide)) (cm_V 2 hts kc_X11_throwsIf ki_RX11 kl_RX11_328 kv_X11_throwsIf kx_X11_throwsIf kd_X11_throwsIf ⟨Nat.le_of_ble_eq_true rfl, Nat.le_of_ble_eq_true rfl⟩) (ty_preE (ci := 11) (q0 := 1) hP hK hD hS hA hX rfl rfl) rfl rfl hl.1 rfl (lv_room (Nat.le_of_ble_eq_true rfl)) dX11_setLimits_37 ⟨Nat.le_of_ble_eq_true rfl, Nat.le_of_ble_eq_true rfl⟩) (fun r_17 u H locs hw_18 hP hD hS => ?_)
      obtain ⟨ws_19, th1_20⟩ := u
      obtain ⟨hT, hp_21⟩ := hw_18
      have hp_21 : ((r_17 = 0 ∧ (0 : Int32) = 0 ∧ th1_20 = 0) ∨ (r_17 = 1 ∧ ¬ (0 : Int32) = 0 ∧ th1_20 = (1 : Int32))) := hp_21
      obtain ⟨hP, hD⟩ := ty_shPD (w2 := ([(rf_RW ct 0 mw 958 f), (rf_MO mo mw ma mf m0 m1 mu mv u0 u1 iz th1_20 mb mn mpt mbg mwr mwk mlf men)] ++ ws_19)) hP hD rfl
      rcases hp_21 with ⟨rfl, hz_22⟩ | ⟨rfl, hz_23⟩
      · have he_24 := hz_22.2
        have hP : va_P D vwCl ([(rf_RW ct 0 mw 958 f), (rf_MO mo mw ma mf m0 m1 mu mv u0 u1 iz (0) mb mn mpt mbg mwr mwk mlf men)] ++ ws_19) H := by rw [he_24] at hP; exact hP
        have hD : va_D A ([(rf_RW ct 0 mw 958 f), (rf_MO mo mw ma mf m0 m1 mu mv u0 u1 iz (0) mb mn mpt mbg mwr mwk mlf men)] ++ ws_19) := by rw [he_24] at hD; exact hD
        refine lv_if_eq (tgt := 45) hx hb dX11_setLimits_40 (by decide) (fun _ => ?_) (fun hc => absurd (by decide) hc)
        refine lv_aload_n hx hb dX11_setLimits_45 rfl (lv_at hl 0 rfl) ?_
        refine va_get (v := .ref mw) (D := D) (ci := 11) (C := RX11) (T := TX11) (N := 19) hx hb hts in_X11 hown hK hP 1 rfl rfl 0 (by decide) (hts _ kl_RX11_9) (fun _ h9 => h9) rfl dX11_setLimits_46 ?_
        refine lv_iconst (v := 4) hx hb dX11_setLimits_49 (by decide) ?_
        refine lv_iload_n hx hb dX11_setLimits_50 rfl (lv_at hl 1 rfl) ?_
        refine va_iast hx hb hK hP hD hS 0 0 rfl rfl (cm_vin (by decide)) dX11_setLimits_51 (fun H locs hP hD hS => ?_)
        have hP : va_P D vwCl ([(rf_RW ct 0 mw 958 (upd f (4 : Int32).toNatClampNeg p1)), (rf_MO mo mw ma mf m0 m1 mu mv u0 u1 iz (0) mb mn mpt mbg mwr mwk mlf men)] ++ ws_19) H := hP
        have hD : va_D A ([(rf_RW ct 0 mw 958 (upd f (4 : Int32).toNatClampNeg p1)), (rf_MO mo mw ma mf m0 m1 mu mv u0 u1 iz (0) mb mn mpt mbg mwr mwk mlf men)] ++ ws_19) := hD
        have hU_26 : rf_R G cx (upd f (4 : Int32).toNatClampNeg p1) ∧ rf_sm f (upd f (4 : Int32).toNatClampNeg p1) := (rf_free _ hR (Or.inl (by decide)))
        generalize hf_29 : (upd f (4 : Int32).toNatClampNeg p1) = f_25 at hP hD hU_26
        have hR_27 := hU_26.1
        have hM_28 := rf_smt (rf_smr f) hU_26.2
        refine lv_aload_n hx hb dX11_setLimits_52 rfl (lv_at hl 0 rfl) ?_
        refine va_get (v := .ref mw) (D := D) (ci := 11) (C := RX11) (T := TX11) (N := 19) hx hb hts in_X11 hown hK hP 1 rfl rfl 0 (by decide) (hts _ kl_RX11_9) (fun _ h9 => h9) rfl dX11_setLimits_53 ?_
        refine lv_iconst (v := 5) hx hb dX11_setLimits_56 (by decide) ?_
        refine lv_iload_n hx hb dX11_setLimits_57 rfl (lv_at hl 2 rfl) ?_
        refine va_iast hx hb hK hP hD hS 0 0 rfl rfl (cm_vin (by decide)) dX11_setLimits_58 (fun H locs hP hD hS => ?_)
        have hP : va_P D vwCl ([(rf_RW ct 0 mw 958 (upd f_25 (5 : Int32).toNatClampNeg p2)), (rf_MO mo mw ma mf m0 m1 mu mv u0 u1 iz (0) mb mn mpt mbg mwr mwk mlf men)] ++ ws_19) H := hP
        have hD : va_D A ([(rf_RW ct 0 mw 958 (upd f_25 (5 : Int32).toNatClampNeg p2)), (rf_MO mo mw ma mf m0 m1 mu mv u0 u1 iz (0) mb mn mpt mbg mwr mwk mlf men)] ++ ws_19) := hD
        have hU_31 : rf_R G cx (upd f_25 (5 : Int32).toNatClampNeg p2) ∧ rf_sm f_25 (upd f_25 (5 : Int32).toNatClampNeg p2) := (rf_free _ hR_27 (Or.inl (by decide)))
        generalize hf_34 : (upd f_25 (5 : Int32).toNatClampNeg p2) = f_30 at hP hD hU_31
        have hR_32 := hU_31.1
        have hM_33 := rf_smt hM_28 hU_31.2
        refine lv_iconst (v := 0) hx hb dX11_setLimits_59 (by decide) ?_
        refine lv_istore_n (lv' := [(3, .int 0), (0, .ref mo), (1, .int p1), (2, .int p2)]) hx hb dX11_setLimits_60 rfl hl (by decide) rfl (fun ls hl => ?_)
        refine lv_iconst (v := 0) hx hb dX11_setLimits_61 (by decide) ?_
        refine lv_istore (lv' := [(4, .int 0), (3, .int 0), (0, .ref mo), (1, .int p1), (2, .int p2)]) hx hb dX11_setLimits_62 hl (by decide) rfl (fun ls hl => ?_)
        refine ty_loop (I := fun μ H locs ls => ∃ (ws : va_W) (y_35 : Int32) (y_36 : Int32), μ = (2147483648 - y_36.toInt).toNat ∧ ty_V ct S ph ws ∧ va_P D vwCl ([(rf_RW ct 0 mw 958 f_30), (rf_MO mo mw ma mf m0 m1 mu mv u0 u1 iz (0) mb mn mpt mbg mwr mwk mlf men)] ++ ws) H ∧ va_D A ([(rf_RW ct 0 mw 958 f_30), (rf_MO mo mw ma mf m0 m1 mu mv u0 u1 iz (0) mb mn mpt mbg mwr mwk mlf men)] ++ ws) ∧ va_S A s.heap H locs ∧ lv_has ls 5 [(0, .ref mo), (1, .int p1), (2, .int p2), (3, .int y_35), (4, .int y_36)] ∧ (0 ≤ y_36.toInt ∧ y_36.toInt ≤ (G 9).toInt) ∧ y_35 = q_so f_30 p1 p2 y_36.toInt.toNat) ⟨_, ws_19, (0 : Int32), (0 : Int32), rfl, hT, hP, hD, hS, (lv_sub hl [2, 3, 4, 1, 0] rfl), ⟨⟨by decide, (by have := hR.1.2.2.1.1; have z : (0 : Int32).toInt = 0 := (by decide); omega)⟩, rfl⟩⟩ (fun μ H locs ls hI ih_64 => ?_)
        obtain ⟨ws, y_35, y_36, rfl, hT, hP, hD, hS, hl, hex_64⟩ := hI
        refine lv_iload hx hb dX11_setLimits_64 (lv_at hl 4 rfl) ?_
        refine lv_aload_n hx hb dX11_setLimits_66 rfl (lv_at hl 0 rfl) ?_
        refine va_get (v := .ref mw) (D := D) (ci := 11) (C := RX11) (T := TX11) (N := 19) hx hb hts in_X11 hown hK hP 1 rfl rfl 0 (by decide) (hts _ kl_RX11_9) (fun _ h9 => h9) rfl dX11_setLimits_67 ?_
        refine lv_bipush (v := 9) hx hb dX11_setLimits_70 (by decide) ?_
        refine va_iald hx hb hK hP 0 0 rfl rfl (cm_vin (by decide)) dX11_setLimits_72 ?_
        refine cm_cst (y := (f_30 9)) (by first | rfl | decide +kernel) ?_
        refine lv_icmp_ge (tgt := 119) hx hb dX11_setLimits_73 (by decide) (fun hc_37 => ?_) (fun hc_37 => ?_)
        · refine lv_iload_n hx hb dX11_setLimits_119 rfl (lv_at hl 3 rfl) ?_
          obtain ⟨hP, hD⟩ := ty_ordPD (E2 := [(rf_MO mo mw ma mf m0 m1 mu mv u0 u1 iz (0) mb mn mpt mbg mwr mwk mlf men), (rf_RW ct 0 mw 958 f_30)]) (n := 2) [1, 0] hP hD rfl rfl (by decide +kernel)
          exact W.iret (v := y_35) hx hb hr (fun t ht hW => ⟨⟨y_35, (ws, (0 : Int32), f_30), rfl, ⟨hT, ⟨(Or.inr ⟨hc_4, (Or.inl ⟨hc_16, ⟨th1_20, trivial, ⟨hz_22, ⟨f_25, hf_29, ⟨f_30, hf_34, ⟨y_35, y_36, hex_64, ⟨hc_37, ⟨rfl, rfl, rfl⟩⟩⟩⟩⟩⟩⟩⟩)⟩), ⟨hR_32, hM_33⟩⟩⟩, by rw [ht]; exact hP, by rw [hAe]; exact hD⟩, hS.F ht⟩) hS.2.2 dX11_setLimits_120
        · refine lv_iload_n hx hb dX11_setLimits_76 rfl (lv_at hl 3 rfl) ?_
          refine lv_aload_n hx hb dX11_setLimits_77 rfl (lv_at hl 0 rfl) ?_
          refine lv_iload hx hb dX11_setLimits_78 (lv_at hl 4 rfl) ?_
          refine lv_iconst (v := 0) hx hb dX11_setLimits_80 (by decide) ?_
          obtain ⟨hP, hD⟩ := ty_opPD (E1 := []) (E2 := [(rf_MO mo mw ma mf m0 m1 mu mv u0 u1 iz (0) mb mn mpt mbg mwr mwk mlf men), (rf_RW ct 0 mw 958 f_30)]) (n := 2) [1, 0] hP hD rfl rfl (by decide +kernel) ty_mva
          refine ty_Ki hP hD hS hA (va_runV (As := [.int y_36, .int 0]) (rest := [.int y_35]) ⟨hx, hb, hml, hown, hts⟩ (m_of_0 l D ct S ws ph xx mo mw ma mf m0 m1 mu mv u0 u1 iz mb (0 : Int32) mn mpt mbg mwr mwk mlf men f_30 G cx y_36 _ hT hph hy1 hR_32 ⟨hex_64.1.1, by rw [← hR_32.2.1.2.2.2.2.1]; exact rf_ylt rfl hc_37⟩) (cm_V 2 hts kc_X11_of ki_RX11 kl_RX11_209 kv_X11_of kx_X11_of kd_X11_of ⟨Nat.le_of_ble_eq_true rfl, Nat.le_of_ble_eq_true rfl⟩) (ty_preE (ci := 11) (q0 := 0) hP hK hD hS hA hX rfl rfl) rfl rfl hl.1 rfl (lv_room (Nat.le_of_ble_eq_true rfl)) dX11_setLimits_81 ⟨Nat.le_of_ble_eq_true rfl, Nat.le_of_ble_eq_true rfl⟩) (fun r_38 u H locs hw_39 hP hD hS => ?_)
          obtain ⟨ws_40, rfl⟩ : ∃ z, z = u := ⟨_, rfl⟩
          obtain ⟨hT, rfl⟩ := hw_39
          obtain ⟨hP, hD⟩ := ty_shPD (w2 := ([(rf_MO mo mw ma mf m0 m1 mu mv u0 u1 iz (0) mb mn mpt mbg mwr mwk mlf men), (rf_RW ct 0 mw 958 f_30)] ++ ws_40)) hP hD rfl
          refine lv_iconst (v := 1) hx hb dX11_setLimits_84 (by decide) ?_
          refine lv_icmp_ne (tgt := 110) hx hb dX11_setLimits_85 (by decide) (fun hc_41 => ?_) (fun hc_41 => ?_)
          · refine lv_iconst (v := 0) hx hb dX11_setLimits_110 (by decide) ?_
            refine lv_iadd hx hb dX11_setLimits_111 ?_
            refine lv_istore_n (lv' := [(3, .int (y_35 + 0)), (0, .ref mo), (1, .int p1), (2, .int p2), (4, .int y_36)]) hx hb dX11_setLimits_112 rfl hl (by decide) rfl (fun ls hl => ?_)
            refine lv_iinc (v := (y_36 + Int32.ofInt 1)) (lv' := [(4, .int (y_36 + Int32.ofInt 1)), (3, .int (y_35 + 0)), (0, .ref mo), (1, .int p1), (2, .int p2)]) hx hb dX11_setLimits_113 hl (k := 4) rfl rfl (by decide) rfl (fun ls hl => ?_)
            refine lv_goto (tgt := 64) hx hb dX11_setLimits_116 (by decide) ?_
            obtain ⟨hP, hD⟩ := ty_ordPD (E2 := [(rf_RW ct 0 mw 958 f_30), (rf_MO mo mw ma mf m0 m1 mu mv u0 u1 iz (0) mb mn mpt mbg mwr mwk mlf men)]) (n := 2) [1, 0] hP hD rfl rfl (by decide +kernel)
            exact ih_64 _ _ _ _ (ty_inc (cm_lt hc_37)) ⟨ws_40, (y_35 + 0), (y_36 + Int32.ofInt 1), rfl, hT, hP, hD, hS, (lv_sub hl [2, 3, 4, 1, 0] rfl), ⟨⟨ty_nn hex_64.1.1 (cm_lt hc_37), (by have := hex_64.1; have q9 : y_36.toInt < (G 9).toInt := (by rw [← hR_32.2.1.2.2.2.2.1]; exact rf_ylt rfl hc_37); have := hR.1.2.2.1; have e9 := rf_oi (n := y_36) (by omega); omega)⟩, q_sos hex_64.1.1 hc_37 hex_64.2 (by rw [if_neg (fun q9 => hc_41 q9.1)])⟩⟩
          · refine lv_aload_n hx hb dX11_setLimits_88 rfl (lv_at hl 0 rfl) ?_
            refine lv_iload hx hb dX11_setLimits_89 (lv_at hl 4 rfl) ?_
            refine lv_iconst (v := 5) hx hb dX11_setLimits_91 (by decide) ?_
            obtain ⟨hP, hD⟩ := ty_ipPD (E1 := []) (E2 := [(rf_MO mo mw ma mf m0 m1 mu mv u0 u1 iz (0) mb mn mpt mbg mwr mwk mlf men), (rf_RW ct 0 mw 958 f_30)]) hP hD rfl ty_mva
            refine ty_Ki hP hD hS hA (va_runV (As := [.int y_36, .int 5]) (rest := [.int y_35]) ⟨hx, hb, hml, hown, hts⟩ (m_of_5 l D ct S ws_40 ph xx mo mw ma mf m0 m1 mu mv u0 u1 iz mb (0 : Int32) mn mpt mbg mwr mwk mlf men f_30 G cx y_36 _ hT hph hy1 hR_32 ⟨hex_64.1.1, by rw [← hR_32.2.1.2.2.2.2.1]; exact rf_ylt rfl hc_37⟩) (cm_V 2 hts kc_X11_of ki_RX11 kl_RX11_209 kv_X11_of kx_X11_of kd_X11_of ⟨Nat.le_of_ble_eq_true rfl, Nat.le_of_ble_eq_true rfl⟩) (ty_preE (ci := 11) (q0 := 0) hP hK hD hS hA hX rfl rfl) rfl rfl hl.1 rfl (lv_room (Nat.le_of_ble_eq_true rfl)) dX11_setLimits_92 ⟨Nat.le_of_ble_eq_true rfl, Nat.le_of_ble_eq_true rfl⟩) (fun r_42 u H locs hw_43 hP hD hS => ?_)
            obtain ⟨ws_44, rfl⟩ : ∃ z, z = u := ⟨_, rfl⟩
            obtain ⟨hT, rfl⟩ := hw_43
            obtain ⟨hP, hD⟩ := ty_shPD (w2 := ([(rf_MO mo mw ma mf m0 m1 mu mv u0 u1 iz (0) mb mn mpt mbg mwr mwk mlf men), (rf_RW ct 0 mw 958 f_30)] ++ ws_44)) hP hD rfl
            refine lv_i2l hx hb dX11_setLimits_95 rfl ?_
            refine lv_iload_n hx hb dX11_setLimits_96 rfl (lv_at hl 1 rfl) ?_
            refine lv_i2l hx hb dX11_setLimits_97 rfl ?_
            refine lv_iload_n hx hb dX11_setLimits_98 rfl (lv_at hl 2 rfl) ?_
            refine lv_i2l hx hb dX11_setLimits_99 rfl ?_
            obtain ⟨hP, hD⟩ := ty_ipPD (E1 := [(rf_MO mo mw ma mf m0 m1 mu mv u0 u1 iz (0) mb mn mpt mbg mwr mwk mlf men), (rf_RW ct 0 mw 958 f_30)]) (E2 := []) hP hD rfl ty_mva
            refine ty_Ki hP hD hS hA (va_runS (As := [.long ((rf_of f_30 y_36 5).toInt64), .long p1.toInt64, .long p2.toInt64]) (rest := [.int y_35]) ⟨hx, hb, hml, hown, hts⟩ (m_X11_in l D ct S ws_44 ph xx ((rf_of f_30 y_36 5).toInt64) p1.toInt64 p2.toInt64 _ hT hph hy1) (cm_S 3 hts kc_X11_in ki_RX11 kl_RX11_70 ks_X11_in kd_X11_in ⟨Nat.le_of_ble_eq_true rfl, Nat.le_of_ble_eq_true rfl⟩) (ty_preS hP hK hD hS hA hX) rfl rfl hl.1 rfl (lv_room (Nat.le_of_ble_eq_true rfl)) dX11_setLimits_100 ⟨Nat.le_of_ble_eq_true rfl, Nat.le_of_ble_eq_true rfl⟩) (fun r_45 u H locs hw_46 hP hD hS => ?_)
            obtain ⟨ws_47, rfl⟩ : ∃ z, z = u := ⟨_, rfl⟩
            obtain ⟨hT, rfl⟩ := hw_46
            obtain ⟨hP, hD⟩ := ty_shPD (w2 := ([(rf_MO mo mw ma mf m0 m1 mu mv u0 u1 iz (0) mb mn mpt mbg mwr mwk mlf men), (rf_RW ct 0 mw 958 f_30)] ++ ws_47)) hP hD rfl
            refine lv_if_ne (tgt := 110) hx hb dX11_setLimits_103 (by decide) (fun hc_48 => ?_) (fun hc_48 => ?_)
            · refine lv_iconst (v := 0) hx hb dX11_setLimits_110 (by decide) ?_
              refine lv_iadd hx hb dX11_setLimits_111 ?_
              refine lv_istore_n (lv' := [(3, .int (y_35 + 0)), (0, .ref mo), (1, .int p1), (2, .int p2), (4, .int y_36)]) hx hb dX11_setLimits_112 rfl hl (by decide) rfl (fun ls hl => ?_)
              refine lv_iinc (v := (y_36 + Int32.ofInt 1)) (lv' := [(4, .int (y_36 + Int32.ofInt 1)), (3, .int (y_35 + 0)), (0, .ref mo), (1, .int p1), (2, .int p2)]) hx hb dX11_setLimits_113 hl (k := 4) rfl rfl (by decide) rfl (fun ls hl => ?_)
              refine lv_goto (tgt := 64) hx hb dX11_setLimits_116 (by decide) ?_
              obtain ⟨hP, hD⟩ := ty_ordPD (E2 := [(rf_RW ct 0 mw 958 f_30), (rf_MO mo mw ma mf m0 m1 mu mv u0 u1 iz (0) mb mn mpt mbg mwr mwk mlf men)]) (n := 2) [1, 0] hP hD rfl rfl (by decide +kernel)
              exact ih_64 _ _ _ _ (ty_inc (cm_lt hc_37)) ⟨ws_47, (y_35 + 0), (y_36 + Int32.ofInt 1), rfl, hT, hP, hD, hS, (lv_sub hl [2, 3, 4, 1, 0] rfl), ⟨⟨ty_nn hex_64.1.1 (cm_lt hc_37), (by have := hex_64.1; have q9 : y_36.toInt < (G 9).toInt := (by rw [← hR_32.2.1.2.2.2.2.1]; exact rf_ylt rfl hc_37); have := hR.1.2.2.1; have e9 := rf_oi (n := y_36) (by omega); omega)⟩, q_sos hex_64.1.1 hc_37 hex_64.2 (by rw [if_neg (fun q9 => hc_48 q9.2)])⟩⟩
            · refine lv_iconst (v := 1) hx hb dX11_setLimits_106 (by decide) ?_
              refine lv_goto (tgt := 111) hx hb dX11_setLimits_107 (by decide) ?_
              refine lv_iadd hx hb dX11_setLimits_111 ?_
              refine lv_istore_n (lv' := [(3, .int (y_35 + 1)), (0, .ref mo), (1, .int p1), (2, .int p2), (4, .int y_36)]) hx hb dX11_setLimits_112 rfl hl (by decide) rfl (fun ls hl => ?_)
              refine lv_iinc (v := (y_36 + Int32.ofInt 1)) (lv' := [(4, .int (y_36 + Int32.ofInt 1)), (3, .int (y_35 + 1)), (0, .ref mo), (1, .int p1), (2, .int p2)]) hx hb dX11_setLimits_113 hl (k := 4) rfl rfl (by decide) rfl (fun ls hl => ?_)
              refine lv_goto (tgt := 64) hx hb dX11_setLimits_116 (by decide) ?_
              obtain ⟨hP, hD⟩ := ty_ordPD (E2 := [(rf_RW ct 0 mw 958 f_30), (rf_MO mo mw ma mf m0 m1 mu mv u0 u1 iz (0) mb mn mpt mbg mwr mwk mlf men)]) (n := 2) [1, 0] hP hD rfl rfl (by decide +kernel)
              exact ih_64 _ _ _ _ (ty_inc (cm_lt hc_37)) ⟨ws_47, (y_35 + 1), (y_36 + Int32.ofInt 1), rfl, hT, hP, hD, hS, (lv_sub hl [2, 3, 4, 1, 0] rfl), ⟨⟨ty_nn hex_64.1.1 (cm_lt hc_37), (by have := hex_64.1; have q9 : y_36.toInt < (G 9).toInt := (by rw [← hR_32.2.1.2.2.2.2.1]; exact rf_ylt rfl hc_37); have := hR.1.2.2.1; have e9 := rf_oi (n := y_36) (by omega); omega)⟩, q_sos hex_64.1.1 hc_37 hex_64.2 (by rw [if_pos ⟨hc_41, hc_48⟩])⟩⟩
      · exact absurd rfl hz_23.1
    · refine lv_iconst (v := 1) hx hb dX11_setLimits_31 (by decide) ?_
      refine lv_goto (tgt := 36) hx hb dX11_setLimits_32 (by decide) ?_
      refine lv_iconst (v := 1) hx hb dX11_setLimits_36 (by decide) ?_
      obtain ⟨hP, hD⟩ := ty_opPD (E1 := [(rf_RW ct 0 mw 958 f)]) (E2 := [(rf_MO mo mw ma mf m0 m1 mu mv u0 u1 iz (0) mb mn mpt mbg mwr mwk mlf men)]) (n := 2) [1, 0] hP hD rfl rfl (by decide +kernel) ty_mva
      refine ty_Ki hP hD hS hA (va_runV (As := [.int 1, .int 1]) (rest := []) ⟨hx, hb, hml, hown, hts⟩ (m_throwsIf_0 l D ct S ws_15 ph xx mo mw ma mf m0 m1 mu mv u0 u1 iz mb mn mpt mbg mwr mwk mlf men (1 : Int32) (1 : Int32) _ hT hph hy1 (by decide)) (cm_V 2 hts kc_X11_throwsIf ki_RX11 kl_RX11_328 kv_X11_throwsIf kx_X11_throwsIf kd_X11_throwsIf ⟨Nat.le_of_ble_eq_true rfl, Nat.le_of_ble_eq_true rfl⟩) (ty_preE (ci := 11) (q0 := 1) hP hK hD hS hA hX rfl rfl) rfl rfl hl.1 rfl (lv_room (Nat.le_of_ble_eq_true rfl)) dX11_setLimits_37 ⟨Nat.le_of_ble_eq_true rfl, Nat.le_of_ble_eq_true rfl⟩) (fun r_49 u H locs hw_50 hP hD hS => ?_)
      obtain ⟨ws_51, th1_52⟩ := u
      obtain ⟨hT, hp_53⟩ := hw_50
      have hp_53 : ((r_49 = 0 ∧ (1 : Int32) = 0 ∧ th1_52 = 0) ∨ (r_49 = 1 ∧ ¬ (1 : Int32) = 0 ∧ th1_52 = (1 : Int32))) := hp_53
      obtain ⟨hP, hD⟩ := ty_shPD (w2 := ([(rf_RW ct 0 mw 958 f), (rf_MO mo mw ma mf m0 m1 mu mv u0 u1 iz th1_52 mb mn mpt mbg mwr mwk mlf men)] ++ ws_51)) hP hD rfl
      rcases hp_53 with ⟨rfl, hz_54⟩ | ⟨rfl, hz_55⟩
      · exact absurd hz_54.1 (by decide)
      · have he_56 := hz_55.2
        have hP : va_P D vwCl ([(rf_RW ct 0 mw 958 f), (rf_MO mo mw ma mf m0 m1 mu mv u0 u1 iz (1) mb mn mpt mbg mwr mwk mlf men)] ++ ws_51) H := by rw [he_56] at hP; exact hP
        have hD : va_D A ([(rf_RW ct 0 mw 958 f), (rf_MO mo mw ma mf m0 m1 mu mv u0 u1 iz (1) mb mn mpt mbg mwr mwk mlf men)] ++ ws_51) := by rw [he_56] at hD; exact hD
        refine lv_if_eq (tgt := 45) hx hb dX11_setLimits_40 (by decide) (fun hc => absurd hc (by decide)) (fun _ => ?_)
        refine lv_iconst (v := 0) hx hb dX11_setLimits_43 (by decide) ?_
        obtain ⟨hP, hD⟩ := ty_ordPD (E2 := [(rf_MO mo mw ma mf m0 m1 mu mv u0 u1 iz (1) mb mn mpt mbg mwr mwk mlf men), (rf_RW ct 0 mw 958 f)]) (n := 2) [1, 0] hP hD rfl rfl (by decide +kernel)
        exact W.iret (v := 0) hx hb hr (fun t ht hW => ⟨⟨0, (ws_51, (1 : Int32), f), rfl, ⟨hT, ⟨(Or.inr ⟨hc_4, (Or.inr ⟨hc_16, ⟨th1_52, trivial, ⟨hz_55, ⟨rfl, rfl, rfl⟩⟩⟩⟩)⟩), ⟨hR, (rf_smr f)⟩⟩⟩, by rw [ht]; exact hP, by rw [hAe]; exact hD⟩, hS.F ht⟩) hS.2.2 dX11_setLimits_44
def q_X11_stepValue (f : Nat → Int32) (p1 : Int32) (p2 : Int32) (p3 : Int32) (r : Int32) (th1 : Int32) : Prop := ((¬ (cm_rng p1.toInt64 0 (((f 10) - 1).toInt64)) = (0 : Int32) ∧ (∃ (th1_8 : Int32), True ∧ (((0 : Int32) = 0 ∧ th1_8 = 0) ∧ ((¬ (cm_rng p3.toInt64 0 2) = (0 : Int32) ∧ (∃ (th1_20 : Int32), True ∧ (((0 : Int32) = 0 ∧ th1_20 = 0) ∧ (((cm_rng p2.toInt64 0 (((f (96 + 37 * p1.toInt.toNat)) - 1).toInt64)) = (0 : Int32) ∧ (r = (-1) ∧ th1 = 0)) ∨ (¬ (cm_rng p2.toInt64 0 (((f (96 + 37 * p1.toInt.toNat)) - 1).toInt64)) = (0 : Int32) ∧ (r = (f (97 + 37 * p1.toInt.toNat + 3 * p2.toInt.toNat + p3.toInt.toNat)) ∧ th1 = 0)))))) ∨ ((cm_rng p3.toInt64 0 2) = (0 : Int32) ∧ (∃ (th1_38 : Int32), True ∧ ((¬ (1 : Int32) = 0 ∧ th1_38 = (2 : Int32)) ∧ (r = 0 ∧ th1 = 2)))))))) ∨ ((cm_rng p1.toInt64 0 (((f 10) - 1).toInt64)) = (0 : Int32) ∧ (∃ (th1_46 : Int32), True ∧ ((¬ (1 : Int32) = 0 ∧ th1_46 = (1 : Int32)) ∧ (r = 0 ∧ th1 = 1)))))
set_option maxRecDepth 100000 in
set_option maxHeartbeats 4000000 in
theorem m_X11_stepValue (l : Launch) (D : va_G) (ct : Nat → ClassId) (S : ty_S) (ws : va_W) (ph : va_W → Prop) (xx : Nat → Nat → Nat → Prop) (mo : Nat) (mw : Nat) (ma : Nat) (mf : Nat) (m0 : Nat) (m1 : Nat) (mu : Nat) (mv : Nat) (u0 : Nat) (u1 : Nat) (iz : Nat) (mb : Nat) (th : Int32) (mn : Int32) (mpt : Int32) (mbg : Int32) (mwr : Int32) (mwk : Int32) (mlf : Int32) (men : Int32) (f : Nat → Int32) (G : Nat → Int32) (cx : Int) (p1 : Int32) (p2 : Int32) (p3 : Int32) (sz : Nat) (hT : ty_V ct S ph ws) (hph : ty_C ph xx) (hy1 : ty_y1 xx) (hR : rf_R G cx f) : Met l yX11_stepValue (ws_ yX11_stepValue cX11_stepValue 4 (some .int)) ({ frames := 1, cells := 0, slots := 0, locals := 25 } : Room) (va_Pc [.ref mo, .int p1, .int p2, .int p3] (cmP D ct sz ([(rf_MO mo mw ma mf m0 m1 mu mv u0 u1 iz th mb mn mpt mbg mwr mwk mlf men), (rf_RW ct 0 mw 958 f)] ++ ws))) (va_Qi (fun (r : Int32) (u : va_W × Int32) => match u with | (u9, th1) => ty_V ct S ph u9 ∧ (q_X11_stepValue f p1 p2 p3 r th1)) (cmB D ([(rf_MO mo mw ma mf m0 m1 mu mv u0 u1 iz th mb mn mpt mbg mwr mwk mlf men), (rf_RW ct 0 mw 958 f)] ++ ws) sz (fun (u : va_W × Int32) => match u with | (u9, th1) => ([(rf_MO mo mw ma mf m0 m1 mu mv u0 u1 iz th1 mb mn mpt mbg mwr mwk mlf men), (rf_RW ct 0 mw 958 f)] ++ u9))) (va_A ([(rf_MO mo mw ma mf m0 m1 mu mv u0 u1 iz th mb mn mpt mbg mwr mwk mlf men), (rf_RW ct 0 mw 958 f)] ++ ws) sz)) 0 0 (va_A ([(rf_MO mo mw ma mf m0 m1 mu mv u0 u1 iz th mb mn mpt mbg mwr mwk mlf men), (rf_RW ct 0 mw 958 f)] ++ ws) sz) := by
  refine Met.ofW (cc := cX11_stepValue) (maxL := 4) (ret := (some .int)) (by decide) rfl ?_
  intro p e s m args below meth c s₁ B hml hv
  obtain ⟨rfl, hsz, hP, hK, hD0, hX⟩ := hv
  have hx := B.exec
  have hb := B.bytes
  have hr := B.returns
  have hts := ws_all (atoms_spec (ws := ws_ yX11_stepValue cX11_stepValue 4 (some .int)) B.pre)
  have hown : s.vm.findClass RX11 = some m.cls := findClass_of_methodNamed B.named
  have hlocks := B.notSynchronized
  subst hsz
  have hD := hD0.self (sz := s.heap.size)
  generalize hAe : va_A ([(rf_MO mo mw ma mf m0 m1 mu mv u0 u1 iz th mb mn mpt mbg mwr mwk mlf men), (rf_RW ct 0 mw 958 f)] ++ ws) s.heap.size = A at hD hX ⊢
  have hA : ∀ q : Nat, s.heap.size ≤ q → A q := fun q h => by rw [← hAe]; exact Or.inr h
  have hS : va_S A s.heap s.heap [] := va_S.rf
  have hl := lv_entry ([.ref mo, .int p1, .int p2, .int p3]) (n := 4) (Nat.le_of_ble_eq_true rfl)
  rw [lg_entry_eq]
  generalize (lg_sl ([.ref mo, .int p1, .int p2, .int p3]) ++ List.replicate (4 - (lg_sl ([.ref mo, .int p1, .int p2, .int p3])).length) Slot.unset).toArray = ls at hl ⊢
  have hl : lv_has ls 4 [(0, .ref mo), (1, .int p1), (2, .int p2), (3, .int p3)] := hl
  refine lv_aload_n hx hb dX11_stepValue_0 rfl (lv_at hl 0 rfl) ?_
  refine lv_iconst (v := 0) hx hb dX11_stepValue_1 (by decide) ?_
  refine va_put (v := .int 0) (ty := .int) (D := D) (ci := 11) (C := RX11) (T := TX11) (N := 19) hx hb hts in_X11 tyX11 tyX11_ok nmX11 hown hK hP hD hS 0 rfl rfl 10 (by decide) (hts _ kl_RX11_49) (fun _ h9 => h9) rfl (by decide +kernel) rfl rfl (Nat.le_of_ble_eq_true rfl) dX11_stepValue_2 (fun H locs hP hD hS => ?_)
  have hP : va_P D vwCl ([(rf_MO mo mw ma mf m0 m1 mu mv u0 u1 iz (0) mb mn mpt mbg mwr mwk mlf men), (rf_RW ct 0 mw 958 f)] ++ ws) H := hP
  have hD : va_D A ([(rf_MO mo mw ma mf m0 m1 mu mv u0 u1 iz (0) mb mn mpt mbg mwr mwk mlf men), (rf_RW ct 0 mw 958 f)] ++ ws) := hD
  refine lv_aload_n hx hb dX11_stepValue_5 rfl (lv_at hl 0 rfl) ?_
  refine lv_iload_n hx hb dX11_stepValue_6 rfl (lv_at hl 1 rfl) ?_
  refine lv_i2l hx hb dX11_stepValue_7 rfl ?_
  refine lv_lconst (v := 0) hx hb dX11_stepValue_8 (by decide) ?_
  refine lv_aload_n hx hb dX11_stepValue_9 rfl (lv_at hl 0 rfl) ?_
  refine va_get (v := .ref mw) (D := D) (ci := 11) (C := RX11) (T := TX11) (N := 19) hx hb hts in_X11 hown hK hP 0 rfl rfl 0 (by decide) (hts _ kl_RX11_9) (fun _ h9 => h9) rfl dX11_stepValue_10 ?_
  refine lv_bipush (v := 10) hx hb dX11_stepValue_13 (by decide) ?_
  refine va_iald hx hb hK hP 1 0 rfl rfl (cm_vin (by decide)) dX11_stepValue_15 ?_
  refine cm_cst (y := (f 10)) (by first | rfl | decide +kernel) ?_
  refine lv_iconst (v := 1) hx hb dX11_stepValue_16 (by decide) ?_
  refine lv_isub hx hb dX11_stepValue_17 ?_
  refine lv_i2l hx hb dX11_stepValue_18 rfl ?_
  obtain ⟨hP, hD⟩ := ty_ipPD (E1 := [(rf_MO mo mw ma mf m0 m1 mu mv u0 u1 iz (0) mb mn mpt mbg mwr mwk mlf men), (rf_RW ct 0 mw 958 f)]) (E2 := []) hP hD rfl ty_mva
  refine ty_Ki hP hD hS hA (va_runS (As := [.long p1.toInt64, .long 0, .long (((f 10) - 1).toInt64)]) (rest := [.ref mo]) ⟨hx, hb, hml, hown, hts⟩ (m_X11_in l D ct S ws ph xx p1.toInt64 (0 : Int64) (((f 10) - 1).toInt64) _ hT hph hy1) (cm_S 3 hts kc_X11_in ki_RX11 kl_RX11_70 ks_X11_in kd_X11_in ⟨Nat.le_of_ble_eq_true rfl, Nat.le_of_ble_eq_true rfl⟩) (ty_preS hP hK hD hS hA hX) rfl rfl hl.1 rfl (lv_room (Nat.le_of_ble_eq_true rfl)) dX11_stepValue_19 ⟨Nat.le_of_ble_eq_true rfl, Nat.le_of_ble_eq_true rfl⟩) (fun r_1 u H locs hw_2 hP hD hS => ?_)
  obtain ⟨ws_3, rfl⟩ : ∃ z, z = u := ⟨_, rfl⟩
  obtain ⟨hT, rfl⟩ := hw_2
  obtain ⟨hP, hD⟩ := ty_shPD (w2 := ([(rf_MO mo mw ma mf m0 m1 mu mv u0 u1 iz (0) mb mn mpt mbg mwr mwk mlf men), (rf_RW ct 0 mw 958 f)] ++ ws_3)) hP hD rfl
  refine lv_if_ne (tgt := 29) hx hb dX11_stepValue_22 (by decide) (fun hc_4 => ?_) (fun hc_4 => ?_)
  · refine lv_iconst (v := 0) hx hb dX11_stepValue_29 (by decide) ?_
    refine lv_iconst (v := 1) hx hb dX11_stepValue_30 (by decide) ?_
    obtain ⟨hP, hD⟩ := ty_opPD (E1 := [(rf_RW ct 0 mw 958 f)]) (E2 := [(rf_MO mo mw ma mf m0 m1 mu mv u0 u1 iz (0) mb mn mpt mbg mwr mwk mlf men)]) (n := 2) [1, 0] hP hD rfl rfl (by decide +kernel) ty_mva
    refine ty_Ki hP hD hS hA (va_runV (As := [.int 0, .int 1]) (rest := []) ⟨hx, hb, hml, hown, hts⟩ (m_throwsIf_0 l D ct S ws_3 ph xx mo mw ma mf m0 m1 mu mv u0 u1 iz mb mn mpt mbg mwr mwk mlf men (0 : Int32) (1 : Int32) _ hT hph hy1 (by decide)) (cm_V 2 hts kc_X11_throwsIf ki_RX11 kl_RX11_328 kv_X11_throwsIf kx_X11_throwsIf kd_X11_throwsIf ⟨Nat.le_of_ble_eq_true rfl, Nat.le_of_ble_eq_true rfl⟩) (ty_preE (ci := 11) (q0 := 1) hP hK hD hS hA hX rfl rfl) rfl rfl hl.1 rfl (lv_room (Nat.le_of_ble_eq_true rfl)) dX11_stepValue_31 ⟨Nat.le_of_ble_eq_true rfl, Nat.le_of_ble_eq_true rfl⟩) (fun r_5 u H locs hw_6 hP hD hS => ?_)
    obtain ⟨ws_7, th1_8⟩ := u
    obtain ⟨hT, hp_9⟩ := hw_6
    have hp_9 : ((r_5 = 0 ∧ (0 : Int32) = 0 ∧ th1_8 = 0) ∨ (r_5 = 1 ∧ ¬ (0 : Int32) = 0 ∧ th1_8 = (1 : Int32))) := hp_9
    obtain ⟨hP, hD⟩ := ty_shPD (w2 := ([(rf_RW ct 0 mw 958 f), (rf_MO mo mw ma mf m0 m1 mu mv u0 u1 iz th1_8 mb mn mpt mbg mwr mwk mlf men)] ++ ws_7)) hP hD rfl
    rcases hp_9 with ⟨rfl, hz_10⟩ | ⟨rfl, hz_11⟩
    · have he_12 := hz_10.2
      have hP : va_P D vwCl ([(rf_RW ct 0 mw 958 f), (rf_MO mo mw ma mf m0 m1 mu mv u0 u1 iz (0) mb mn mpt mbg mwr mwk mlf men)] ++ ws_7) H := by rw [he_12] at hP; exact hP
      have hD : va_D A ([(rf_RW ct 0 mw 958 f), (rf_MO mo mw ma mf m0 m1 mu mv u0 u1 iz (0) mb mn mpt mbg mwr mwk mlf men)] ++ ws_7) := by rw [he_12] at hD; exact hD
      refine lv_if_ne (tgt := 62) hx hb dX11_stepValue_34 (by decide) (fun hc => absurd (by decide) hc) (fun _ => ?_)
      refine lv_aload_n hx hb dX11_stepValue_37 rfl (lv_at hl 0 rfl) ?_
      refine lv_iload_n hx hb dX11_stepValue_38 rfl (lv_at hl 3 rfl) ?_
      refine lv_i2l hx hb dX11_stepValue_39 rfl ?_
      refine lv_lconst (v := 0) hx hb dX11_stepValue_40 (by decide) ?_
      refine lv_ldc2 hx hb hown (hts _ kl_RX11_326) dX11_stepValue_41 ?_
      obtain ⟨hP, hD⟩ := ty_ipPD (E1 := [(rf_RW ct 0 mw 958 f), (rf_MO mo mw ma mf m0 m1 mu mv u0 u1 iz (0) mb mn mpt mbg mwr mwk mlf men)]) (E2 := []) hP hD rfl ty_mva
      refine ty_Ki hP hD hS hA (va_runS (As := [.long p3.toInt64, .long 0, .long 2]) (rest := [.ref mo]) ⟨hx, hb, hml, hown, hts⟩ (m_X11_in l D ct S ws_7 ph xx p3.toInt64 (0 : Int64) (2 : Int64) _ hT hph hy1) (cm_S 3 hts kc_X11_in ki_RX11 kl_RX11_70 ks_X11_in kd_X11_in ⟨Nat.le_of_ble_eq_true rfl, Nat.le_of_ble_eq_true rfl⟩) (ty_preS hP hK hD hS hA hX) rfl rfl hl.1 rfl (lv_room (Nat.le_of_ble_eq_true rfl)) dX11_stepValue_44 ⟨Nat.le_of_ble_eq_true rfl, Nat.le_of_ble_eq_true rfl⟩) (fun r_13 u H locs hw_14 hP hD hS => ?_)
      obtain ⟨ws_15, rfl⟩ : ∃ z, z = u := ⟨_, rfl⟩
      obtain ⟨hT, rfl⟩ := hw_14
      obtain ⟨hP, hD⟩ := ty_shPD (w2 := ([(rf_RW ct 0 mw 958 f), (rf_MO mo mw ma mf m0 m1 mu mv u0 u1 iz (0) mb mn mpt mbg mwr mwk mlf men)] ++ ws_15)) hP hD rfl
      refine lv_if_ne (tgt := 54) hx hb dX11_stepValue_47 (by decide) (fun hc_16 => ?_) (fun hc_16 => ?_)
      · refine lv_iconst (v := 0) hx hb dX11_stepValue_54 (by decide) ?_
        refine lv_iconst (v := 2) hx hb dX11_stepValue_55 (by decide) ?_
        obtain ⟨hP, hD⟩ := ty_ipPD (E1 := [(rf_RW ct 0 mw 958 f)]) (E2 := [(rf_MO mo mw ma mf m0 m1 mu mv u0 u1 iz (0) mb mn mpt mbg mwr mwk mlf men)]) hP hD rfl ty_mva
        refine ty_Ki hP hD hS hA (va_runV (As := [.int 0, .int 2]) (rest := []) ⟨hx, hb, hml, hown, hts⟩ (m_throwsIf_0 l D ct S ws_15 ph xx mo mw ma mf m0 m1 mu mv u0 u1 iz mb mn mpt mbg mwr mwk mlf men (0 : Int32) (2 : Int32) _ hT hph hy1 (by decide)) (cm_V 2 hts kc_X11_throwsIf ki_RX11 kl_RX11_328 kv_X11_throwsIf kx_X11_throwsIf kd_X11_throwsIf ⟨Nat.le_of_ble_eq_true rfl, Nat.le_of_ble_eq_true rfl⟩) (ty_preE (ci := 11) (q0 := 1) hP hK hD hS hA hX rfl rfl) rfl rfl hl.1 rfl (lv_room (Nat.le_of_ble_eq_true rfl)) dX11_stepValue_56 ⟨Nat.le_of_ble_eq_true rfl, Nat.le_of_ble_eq_true rfl⟩) (fun r_17 u H locs hw_18 hP hD hS => ?_)
        obtain ⟨ws_19, th1_20⟩ := u
        obtain ⟨hT, hp_21⟩ := hw_18
        have hp_21 : ((r_17 = 0 ∧ (0 : Int32) = 0 ∧ th1_20 = 0) ∨ (r_17 = 1 ∧ ¬ (0 : Int32) = 0 ∧ th1_20 = (2 : Int32))) := hp_21
        obtain ⟨hP, hD⟩ := ty_shPD (w2 := ([(rf_RW ct 0 mw 958 f), (rf_MO mo mw ma mf m0 m1 mu mv u0 u1 iz th1_20 mb mn mpt mbg mwr mwk mlf men)] ++ ws_19)) hP hD rfl
        rcases hp_21 with ⟨rfl, hz_22⟩ | ⟨rfl, hz_23⟩
        · have he_24 := hz_22.2
          have hP : va_P D vwCl ([(rf_RW ct 0 mw 958 f), (rf_MO mo mw ma mf m0 m1 mu mv u0 u1 iz (0) mb mn mpt mbg mwr mwk mlf men)] ++ ws_19) H := by rw [he_24] at hP; exact hP
          have hD : va_D A ([(rf_RW ct 0 mw 958 f), (rf_MO mo mw ma mf m0 m1 mu mv u0 u1 iz (0) mb mn mpt mbg mwr mwk mlf men)] ++ ws_19) := by rw [he_24] at hD; exact hD
          refine lv_if_eq (tgt := 64) hx hb dX11_stepValue_59 (by decide) (fun _ => ?_) (fun hc => absurd (by decide) hc)
          refine lv_iload_n hx hb dX11_stepValue_64 rfl (lv_at hl 2 rfl) ?_
          refine lv_i2l hx hb dX11_stepValue_65 rfl ?_
          refine lv_lconst (v := 0) hx hb dX11_stepValue_66 (by decide) ?_
          refine lv_aload_n hx hb dX11_stepValue_67 rfl (lv_at hl 0 rfl) ?_
          refine lv_iload_n hx hb dX11_stepValue_68 rfl (lv_at hl 1 rfl) ?_
          obtain ⟨hP, hD⟩ := ty_opPD (E1 := []) (E2 := [(rf_MO mo mw ma mf m0 m1 mu mv u0 u1 iz (0) mb mn mpt mbg mwr mwk mlf men), (rf_RW ct 0 mw 958 f)]) (n := 2) [1, 0] hP hD rfl rfl (by decide +kernel) ty_mva
          refine ty_Ki hP hD hS hA (va_runV (As := [.int p1]) (rest := [.long 0, .long p2.toInt64]) ⟨hx, hb, hml, hown, hts⟩ (m_X11_stepsOf l D ct S ws_19 ph xx mo mw ma mf m0 m1 mu mv u0 u1 iz mb (0 : Int32) mn mpt mbg mwr mwk mlf men f G cx p1 _ hT hph hy1 hR (rf_p4 hR (rf_prog hR hc_4))) (cm_V 1 hts kc_X11_stepsOf ki_RX11 kl_RX11_276 kv_X11_stepsOf kx_X11_stepsOf kd_X11_stepsOf ⟨Nat.le_of_ble_eq_true rfl, Nat.le_of_ble_eq_true rfl⟩) (ty_preE (ci := 11) (q0 := 0) hP hK hD hS hA hX rfl rfl) rfl rfl hl.1 rfl (lv_room (Nat.le_of_ble_eq_true rfl)) dX11_stepValue_69 ⟨Nat.le_of_ble_eq_true rfl, Nat.le_of_ble_eq_true rfl⟩) (fun r_25 u H locs hw_26 hP hD hS => ?_)
          obtain ⟨ws_27, rfl⟩ : ∃ z, z = u := ⟨_, rfl⟩
          obtain ⟨hT, rfl⟩ := hw_26
          obtain ⟨hP, hD⟩ := ty_shPD (w2 := ([(rf_MO mo mw ma mf m0 m1 mu mv u0 u1 iz (0) mb mn mpt mbg mwr mwk mlf men), (rf_RW ct 0 mw 958 f)] ++ ws_27)) hP hD rfl
          refine lv_iconst (v := 1) hx hb dX11_stepValue_72 (by decide) ?_
          refine lv_isub hx hb dX11_stepValue_73 ?_
          refine lv_i2l hx hb dX11_stepValue_74 rfl ?_
          obtain ⟨hP, hD⟩ := ty_ipPD (E1 := [(rf_MO mo mw ma mf m0 m1 mu mv u0 u1 iz (0) mb mn mpt mbg mwr mwk mlf men), (rf_RW ct 0 mw 958 f)]) (E2 := []) hP hD rfl ty_mva
          refine ty_Ki hP hD hS hA (va_runS (As := [.long p2.toInt64, .long 0, .long (((f (96 + 37 * p1.toInt.toNat)) - 1).toInt64)]) (rest := []) ⟨hx, hb, hml, hown, hts⟩ (m_X11_in l D ct S ws_27 ph xx p2.toInt64 (0 : Int64) (((f (96 + 37 * p1.toInt.toNat)) - 1).toInt64) _ hT hph hy1) (cm_S 3 hts kc_X11_in ki_RX11 kl_RX11_70 ks_X11_in kd_X11_in ⟨Nat.le_of_ble_eq_true rfl, Nat.le_of_ble_eq_true rfl⟩) (ty_preS hP hK hD hS hA hX) rfl rfl hl.1 rfl (lv_room (Nat.le_of_ble_eq_true rfl)) dX11_stepValue_75 ⟨Nat.le_of_ble_eq_true rfl, Nat.le_of_ble_eq_true rfl⟩) (fun r_28 u H locs hw_29 hP hD hS => ?_)
          obtain ⟨ws_30, rfl⟩ : ∃ z, z = u := ⟨_, rfl⟩
          obtain ⟨hT, rfl⟩ := hw_29
          obtain ⟨hP, hD⟩ := ty_shPD (w2 := ([(rf_MO mo mw ma mf m0 m1 mu mv u0 u1 iz (0) mb mn mpt mbg mwr mwk mlf men), (rf_RW ct 0 mw 958 f)] ++ ws_30)) hP hD rfl
          refine lv_if_eq (tgt := 91) hx hb dX11_stepValue_78 (by decide) (fun hc_31 => ?_) (fun hc_31 => ?_)
          · refine lv_iconst (v := (-1)) hx hb dX11_stepValue_91 (by decide) ?_
            exact W.iret (v := (-1)) hx hb hr (fun t ht hW => ⟨⟨(-1), (ws_30, (0 : Int32)), rfl, ⟨hT, (Or.inl ⟨hc_4, ⟨th1_8, trivial, ⟨hz_10, (Or.inl ⟨hc_16, ⟨th1_20, trivial, ⟨hz_22, (Or.inl ⟨hc_31, ⟨rfl, rfl⟩⟩)⟩⟩⟩)⟩⟩⟩)⟩, by rw [ht]; exact hP, by rw [hAe]; exact hD⟩, hS.F ht⟩) hS.2.2 dX11_stepValue_92
          · refine lv_aload_n hx hb dX11_stepValue_81 rfl (lv_at hl 0 rfl) ?_
            refine lv_iload_n hx hb dX11_stepValue_82 rfl (lv_at hl 1 rfl) ?_
            refine lv_iload_n hx hb dX11_stepValue_83 rfl (lv_at hl 2 rfl) ?_
            refine lv_iload_n hx hb dX11_stepValue_84 rfl (lv_at hl 3 rfl) ?_
            obtain ⟨hP, hD⟩ := ty_ipPD (E1 := []) (E2 := [(rf_MO mo mw ma mf m0 m1 mu mv u0 u1 iz (0) mb mn mpt mbg mwr mwk mlf men), (rf_RW ct 0 mw 958 f)]) hP hD rfl ty_mva
            refine ty_Ki hP hD hS hA (va_runV (As := [.int p1, .int p2, .int p3]) (rest := []) ⟨hx, hb, hml, hown, hts⟩ (m_X11_stepOf l D ct S ws_30 ph xx mo mw ma mf m0 m1 mu mv u0 u1 iz mb (0 : Int32) mn mpt mbg mwr mwk mlf men f G cx p1 p2 p3 _ hT hph hy1 hR (rf_p4 hR (rf_prog hR hc_4)) (by have := rf_psn hR (rf_prog hR hc_4); have := rf_rngi (L := 0) (by decide) (by omega) (rf_ne0 hc_31); omega) (rf_rngc (L := 0) (U := 2) (by decide) (by decide) hc_16)) (cm_V 3 hts kc_X11_stepOf ki_RX11 kl_RX11_218 kv_X11_stepOf kx_X11_stepOf kd_X11_stepOf ⟨Nat.le_of_ble_eq_true rfl, Nat.le_of_ble_eq_true rfl⟩) (ty_preE (ci := 11) (q0 := 0) hP hK hD hS hA hX rfl rfl) rfl rfl hl.1 rfl (lv_room (Nat.le_of_ble_eq_true rfl)) dX11_stepValue_85 ⟨Nat.le_of_ble_eq_true rfl, Nat.le_of_ble_eq_true rfl⟩) (fun r_32 u H locs hw_33 hP hD hS => ?_)
            obtain ⟨ws_34, rfl⟩ : ∃ z, z = u := ⟨_, rfl⟩
            obtain ⟨hT, rfl⟩ := hw_33
            obtain ⟨hP, hD⟩ := ty_shPD (w2 := ([(rf_MO mo mw ma mf m0 m1 mu mv u0 u1 iz (0) mb mn mpt mbg mwr mwk mlf men), (rf_RW ct 0 mw 958 f)] ++ ws_34)) hP hD rfl
            refine lv_goto (tgt := 92) hx hb dX11_stepValue_88 (by decide) ?_
            exact W.iret (v := (f (97 + 37 * p1.toInt.toNat + 3 * p2.toInt.toNat + p3.toInt.toNat))) hx hb hr (fun t ht hW => ⟨⟨(f (97 + 37 * p1.toInt.toNat + 3 * p2.toInt.toNat + p3.toInt.toNat)), (ws_34, (0 : Int32)), rfl, ⟨hT, (Or.inl ⟨hc_4, ⟨th1_8, trivial, ⟨hz_10, (Or.inl ⟨hc_16, ⟨th1_20, trivial, ⟨hz_22, (Or.inr ⟨hc_31, ⟨rfl, rfl⟩⟩)⟩⟩⟩)⟩⟩⟩)⟩, by rw [ht]; exact hP, by rw [hAe]; exact hD⟩, hS.F ht⟩) hS.2.2 dX11_stepValue_92
        · exact absurd rfl hz_23.1
      · refine lv_iconst (v := 1) hx hb dX11_stepValue_50 (by decide) ?_
        refine lv_goto (tgt := 55) hx hb dX11_stepValue_51 (by decide) ?_
        refine lv_iconst (v := 2) hx hb dX11_stepValue_55 (by decide) ?_
        obtain ⟨hP, hD⟩ := ty_ipPD (E1 := [(rf_RW ct 0 mw 958 f)]) (E2 := [(rf_MO mo mw ma mf m0 m1 mu mv u0 u1 iz (0) mb mn mpt mbg mwr mwk mlf men)]) hP hD rfl ty_mva
        refine ty_Ki hP hD hS hA (va_runV (As := [.int 1, .int 2]) (rest := []) ⟨hx, hb, hml, hown, hts⟩ (m_throwsIf_0 l D ct S ws_15 ph xx mo mw ma mf m0 m1 mu mv u0 u1 iz mb mn mpt mbg mwr mwk mlf men (1 : Int32) (2 : Int32) _ hT hph hy1 (by decide)) (cm_V 2 hts kc_X11_throwsIf ki_RX11 kl_RX11_328 kv_X11_throwsIf kx_X11_throwsIf kd_X11_throwsIf ⟨Nat.le_of_ble_eq_true rfl, Nat.le_of_ble_eq_true rfl⟩) (ty_preE (ci := 11) (q0 := 1) hP hK hD hS hA hX rfl rfl) rfl rfl hl.1 rfl (lv_room (Nat.le_of_ble_eq_true rfl)) dX11_stepValue_56 ⟨Nat.le_of_ble_eq_true rfl, Nat.le_of_ble_eq_true rfl⟩) (fun r_35 u H locs hw_36 hP hD hS => ?_)
        obtain ⟨ws_37, th1_38⟩ := u
        obtain ⟨hT, hp_39⟩ := hw_36
        have hp_39 : ((r_35 = 0 ∧ (1 : Int32) = 0 ∧ th1_38 = 0) ∨ (r_35 = 1 ∧ ¬ (1 : Int32) = 0 ∧ th1_38 = (2 : Int32))) := hp_39
        obtain ⟨hP, hD⟩ := ty_shPD (w2 := ([(rf_RW ct 0 mw 958 f), (rf_MO mo mw ma mf m0 m1 mu mv u0 u1 iz th1_38 mb mn mpt mbg mwr mwk mlf men)] ++ ws_37)) hP hD rfl
        rcases hp_39 with ⟨rfl, hz_40⟩ | ⟨rfl, hz_41⟩
        · exact absurd hz_40.1 (by decide)
        · have he_42 := hz_41.2
          have hP : va_P D vwCl ([(rf_RW ct 0 mw 958 f), (rf_MO mo mw ma mf m0 m1 mu mv u0 u1 iz (2) mb mn mpt mbg mwr mwk mlf men)] ++ ws_37) H := by rw [he_42] at hP; exact hP
          have hD : va_D A ([(rf_RW ct 0 mw 958 f), (rf_MO mo mw ma mf m0 m1 mu mv u0 u1 iz (2) mb mn mpt mbg mwr mwk mlf men)] ++ ws_37) := by rw [he_42] at hD; exact hD
          refine lv_if_eq (tgt := 64) hx hb dX11_stepValue_59 (by decide) (fun hc => absurd hc (by decide)) (fun _ => ?_)
          refine lv_iconst (v := 0) hx hb dX11_stepValue_62 (by decide) ?_
          obtain ⟨hP, hD⟩ := ty_ordPD (E2 := [(rf_MO mo mw ma mf m0 m1 mu mv u0 u1 iz (2) mb mn mpt mbg mwr mwk mlf men), (rf_RW ct 0 mw 958 f)]) (n := 2) [1, 0] hP hD rfl rfl (by decide +kernel)
          exact W.iret (v := 0) hx hb hr (fun t ht hW => ⟨⟨0, (ws_37, (2 : Int32)), rfl, ⟨hT, (Or.inl ⟨hc_4, ⟨th1_8, trivial, ⟨hz_10, (Or.inr ⟨hc_16, ⟨th1_38, trivial, ⟨hz_41, ⟨rfl, rfl⟩⟩⟩⟩)⟩⟩⟩)⟩, by rw [ht]; exact hP, by rw [hAe]; exact hD⟩, hS.F ht⟩) hS.2.2 dX11_stepValue_63
    · exact absurd rfl hz_11.1
  · refine lv_iconst (v := 1) hx hb dX11_stepValue_25 (by decide) ?_
    refine lv_goto (tgt := 30) hx hb dX11_stepValue_26 (by decide) ?_
    refine lv_iconst (v := 1) hx hb dX11_stepValue_30 (by decide) ?_
    obtain ⟨hP, hD⟩ := ty_opPD (E1 := [(rf_RW ct 0 mw 958 f)]) (E2 := [(rf_MO mo mw ma mf m0 m1 mu mv u0 u1 iz (0) mb mn mpt mbg mwr mwk mlf men)]) (n := 2) [1, 0] hP hD rfl rfl (by decide +kernel) ty_mva
    refine ty_Ki hP hD hS hA (va_runV (As := [.int 1, .int 1]) (rest := []) ⟨hx, hb, hml, hown, hts⟩ (m_throwsIf_0 l D ct S ws_3 ph xx mo mw ma mf m0 m1 mu mv u0 u1 iz mb mn mpt mbg mwr mwk mlf men (1 : Int32) (1 : Int32) _ hT hph hy1 (by decide)) (cm_V 2 hts kc_X11_throwsIf ki_RX11 kl_RX11_328 kv_X11_throwsIf kx_X11_throwsIf kd_X11_throwsIf ⟨Nat.le_of_ble_eq_true rfl, Nat.le_of_ble_eq_true rfl⟩) (ty_preE (ci := 11) (q0 := 1) hP hK hD hS hA hX rfl rfl) rfl rfl hl.1 rfl (lv_room (Nat.le_of_ble_eq_true rfl)) dX11_stepValue_31 ⟨Nat.le_of_ble_eq_true rfl, Nat.le_of_ble_eq_true rfl⟩) (fun r_43 u H locs hw_44 hP hD hS => ?_)
    obtain ⟨ws_45, th1_46⟩ := u
    obtain ⟨hT, hp_47⟩ := hw_44
    have hp_47 : ((r_43 = 0 ∧ (1 : Int32) = 0 ∧ th1_46 = 0) ∨ (r_43 = 1 ∧ ¬ (1 : Int32) = 0 ∧ th1_46 = (1 : Int32))) := hp_47
    obtain ⟨hP, hD⟩ := ty_shPD (w2 := ([(rf_RW ct 0 mw 958 f), (rf_MO mo mw ma mf m0 m1 mu mv u0 u1 iz th1_46 mb mn mpt mbg mwr mwk mlf men)] ++ ws_45)) hP hD rfl
    rcases hp_47 with ⟨rfl, hz_48⟩ | ⟨rfl, hz_49⟩
    · exact absurd hz_48.1 (by decide)
    · have he_50 := hz_49.2
      have hP : va_P D vwCl ([(rf_RW ct 0 mw 958 f), (rf_MO mo mw ma mf m0 m1 mu mv u0 u1 iz (1) mb mn mpt mbg mwr mwk mlf men)] ++ ws_45) H := by rw [he_50] at hP; exact hP
      have hD : va_D A ([(rf_RW ct 0 mw 958 f), (rf_MO mo mw ma mf m0 m1 mu mv u0 u1 iz (1) mb mn mpt mbg mwr mwk mlf men)] ++ ws_45) := by rw [he_50] at hD; exact hD
      refine lv_if_ne (tgt := 62) hx hb dX11_stepValue_34 (by decide) (fun _ => ?_) (fun hc => absurd hc (by decide))
      refine lv_iconst (v := 0) hx hb dX11_stepValue_62 (by decide) ?_
      obtain ⟨hP, hD⟩ := ty_ordPD (E2 := [(rf_MO mo mw ma mf m0 m1 mu mv u0 u1 iz (1) mb mn mpt mbg mwr mwk mlf men), (rf_RW ct 0 mw 958 f)]) (n := 2) [1, 0] hP hD rfl rfl (by decide +kernel)
      exact W.iret (v := 0) hx hb hr (fun t ht hW => ⟨⟨0, (ws_45, (1 : Int32)), rfl, ⟨hT, (Or.inr ⟨hc_4, ⟨th1_46, trivial, ⟨hz_49, ⟨rfl, rfl⟩⟩⟩⟩)⟩, by rw [ht]; exact hP, by rw [hAe]; exact hD⟩, hS.F ht⟩) hS.2.2 dX11_stepValue_63
def q_X11_now (th1 : Int32) : Prop := (th1 = 0)
set_option maxRecDepth 100000 in
set_option maxHeartbeats 4000000 in
theorem m_X11_now (l : Launch) (D : va_G) (ct : Nat → ClassId) (S : ty_S) (ws : va_W) (ph : va_W → Prop) (xx : Nat → Nat → Nat → Prop) (mo : Nat) (mw : Nat) (ma : Nat) (mf : Nat) (m0 : Nat) (m1 : Nat) (mu : Nat) (mv : Nat) (u0 : Nat) (u1 : Nat) (iz : Nat) (mb : Nat) (th : Int32) (mn : Int32) (mpt : Int32) (mbg : Int32) (mwr : Int32) (mwk : Int32) (mlf : Int32) (men : Int32) (f : Nat → Int32) (G : Nat → Int32) (cx : Int) (sz : Nat) (hT : ty_V ct S ph ws) (hph : ty_C ph xx) (hy1 : ty_y1 xx) (hR : rf_R G cx f) : Met l yX11_now (ws_ yX11_now cX11_now 1 (some .int)) ({ frames := 0, cells := 0, slots := 0, locals := 0 } : Room) (va_Pc [.ref mo] (cmP D ct sz ([(rf_MO mo mw ma mf m0 m1 mu mv u0 u1 iz th mb mn mpt mbg mwr mwk mlf men), (rf_RW ct 0 mw 958 f)] ++ ws))) (va_Qi (fun (r : Int32) (u : va_W × Int32) => match u with | (u9, th1) => ty_V ct S ph u9 ∧ r = (f 8) ∧ (q_X11_now th1)) (cmB D ([(rf_MO mo mw ma mf m0 m1 mu mv u0 u1 iz th mb mn mpt mbg mwr mwk mlf men), (rf_RW ct 0 mw 958 f)] ++ ws) sz (fun (u : va_W × Int32) => match u with | (u9, th1) => ([(rf_MO mo mw ma mf m0 m1 mu mv u0 u1 iz th1 mb mn mpt mbg mwr mwk mlf men), (rf_RW ct 0 mw 958 f)] ++ u9))) (va_A ([(rf_MO mo mw ma mf m0 m1 mu mv u0 u1 iz th mb mn mpt mbg mwr mwk mlf men), (rf_RW ct 0 mw 958 f)] ++ ws) sz)) 0 0 (va_A ([(rf_MO mo mw ma mf m0 m1 mu mv u0 u1 iz th mb mn mpt mbg mwr mwk mlf men), (rf_RW ct 0 mw 958 f)] ++ ws) sz) := by
  refine Met.ofW (cc := cX11_now) (maxL := 1) (ret := (some .int)) (by decide) rfl ?_
  intro p e s m args below meth c s₁ B hml hv
  obtain ⟨rfl, hsz, hP, hK, hD0, hX⟩ := hv
  have hx := B.exec
  have hb := B.bytes
  have hr := B.returns
  have hts := ws_all (atoms_spec (ws := ws_ yX11_now cX11_now 1 (some .int)) B.pre)
  have hown : s.vm.findClass RX11 = some m.cls := findClass_of_methodNamed B.named
  have hlocks := B.notSynchronized
  subst hsz
  have hD := hD0.self (sz := s.heap.size)
  generalize hAe : va_A ([(rf_MO mo mw ma mf m0 m1 mu mv u0 u1 iz th mb mn mpt mbg mwr mwk mlf men), (rf_RW ct 0 mw 958 f)] ++ ws) s.heap.size = A at hD hX ⊢
  have hA : ∀ q : Nat, s.heap.size ≤ q → A q := fun q h => by rw [← hAe]; exact Or.inr h
  have hS : va_S A s.heap s.heap [] := va_S.rf
  have hl := lv_entry ([.ref mo]) (n := 1) (Nat.le_of_ble_eq_true rfl)
  rw [lg_entry_eq]
  generalize (lg_sl ([.ref mo]) ++ List.replicate (1 - (lg_sl ([.ref mo])).length) Slot.unset).toArray = ls at hl ⊢
  have hl : lv_has ls 1 [(0, .ref mo)] := hl
  refine lv_aload_n hx hb dX11_now_0 rfl (lv_at hl 0 rfl) ?_
  refine lv_iconst (v := 0) hx hb dX11_now_1 (by decide) ?_
  refine va_put (v := .int 0) (ty := .int) (D := D) (ci := 11) (C := RX11) (T := TX11) (N := 19) hx hb hts in_X11 tyX11 tyX11_ok nmX11 hown hK hP hD hS 0 rfl rfl 10 (by decide) (hts _ kl_RX11_49) (fun _ h9 => h9) rfl (by decide +kernel) rfl rfl (Nat.le_of_ble_eq_true rfl) dX11_now_2 (fun H locs hP hD hS => ?_)
  have hP : va_P D vwCl ([(rf_MO mo mw ma mf m0 m1 mu mv u0 u1 iz (0) mb mn mpt mbg mwr mwk mlf men), (rf_RW ct 0 mw 958 f)] ++ ws) H := hP
  have hD : va_D A ([(rf_MO mo mw ma mf m0 m1 mu mv u0 u1 iz (0) mb mn mpt mbg mwr mwk mlf men), (rf_RW ct 0 mw 958 f)] ++ ws) := hD
  refine lv_aload_n hx hb dX11_now_5 rfl (lv_at hl 0 rfl) ?_
  refine va_get (v := .ref mw) (D := D) (ci := 11) (C := RX11) (T := TX11) (N := 19) hx hb hts in_X11 hown hK hP 0 rfl rfl 0 (by decide) (hts _ kl_RX11_9) (fun _ h9 => h9) rfl dX11_now_6 ?_
  refine lv_bipush (v := 8) hx hb dX11_now_9 (by decide) ?_
  refine va_iald hx hb hK hP 1 0 rfl rfl (cm_vin (by decide)) dX11_now_11 ?_
  refine cm_cst (y := (f 8)) (by first | rfl | decide +kernel) ?_
  exact W.iret (v := (f 8)) hx hb hr (fun t ht hW => ⟨⟨(f 8), (ws, (0 : Int32)), rfl, ⟨hT, rfl, rfl⟩, by rw [ht]; exact hP, by rw [hAe]; exact hD⟩, hS.F ht⟩) hS.2.2 dX11_now_12
def q_ta (G : Nat → Int32) : Nat → Int32 → (Nat → Int32) → (Nat → Int64) → Int32 → (Nat → Int32) → (Nat → Int64) → Prop
  | 0, e, f, s, e1, f1, s1 => e1 = e ∧ f1 = f ∧ s1 = s
  | n + 1, e, f, s, e1, f1, s1 => ∃ (e2 : Int32) (f2 : Nat → Int32) (s2 : Nat → Int64), q_ta G n e f s e2 f2 s2 ∧ q_X11_ticks e2 f2 G s2 e1 f1 s1
theorem q_ta0 {G f : Nat → Int32} {e : Int32} {s : Nat → Int64} : q_ta G (0 : Int32).toInt.toNat e f s e f s := by
  rw [show (0 : Int32).toInt.toNat = 0 from by decide]
  exact ⟨rfl, rfl, rfl⟩
theorem q_tas {G f f2 f1 : Nat → Int32} {y p e e2 e1 : Int32} {s s2 s1 : Nat → Int64} (h0 : 0 ≤ y.toInt) (h : ¬ p ≤ y) (a : q_ta G y.toInt.toNat e f s e2 f2 s2) (b : q_X11_ticks e2 f2 G s2 e1 f1 s1) : q_ta G (y + Int32.ofInt 1).toInt.toNat e f s e1 f1 s1 := by
  rw [q_y1 h0 h]
  exact ⟨e2, f2, s2, a, b⟩
def q_X11_advance (men : Int32) (f : Nat → Int32) (G : Nat → Int32) (su : Nat → Int64) (p1 : Int32) (r : Int32) (men1 : Int32) (th1 : Int32) (f1 : Nat → Int32) (su1 : Nat → Int64) : Prop := ((¬ (cm_rng p1.toInt64 1 5000) = (0 : Int32) ∧ (∃ (th1_8 : Int32), True ∧ (((0 : Int32) = 0 ∧ th1_8 = 0) ∧ ((((f 8) + p1) ≤ (300000 : Int32) ∧ (∃ (y_14 : Int32) (y_15 : Int32) (f_16 : Nat → Int32) (g_17 : Nat → Int64), ((0 ≤ y_14.toInt ∧ y_14.toInt ≤ p1.toInt) ∧ q_ta G y_14.toInt.toNat 0 f su y_15 f_16 g_17) ∧ (p1 ≤ y_14 ∧ (r = y_15 ∧ men1 = y_15 ∧ th1 = 0 ∧ f1 = f_16 ∧ su1 = g_17)))) ∨ (¬ ((f 8) + p1) ≤ (300000 : Int32) ∧ (r = (-2) ∧ men1 = men ∧ th1 = 0 ∧ f1 = f ∧ su1 = su)))))) ∨ ((cm_rng p1.toInt64 1 5000) = (0 : Int32) ∧ (∃ (th1_36 : Int32), True ∧ ((¬ (1 : Int32) = 0 ∧ th1_36 = (1 : Int32)) ∧ (r = 0 ∧ men1 = men ∧ th1 = 1 ∧ f1 = f ∧ su1 = su)))))
set_option maxRecDepth 100000 in
set_option maxHeartbeats 4000000 in
theorem m_X11_advance (l : Launch) (D : va_G) (ct : Nat → ClassId) (S : ty_S) (ws : va_W) (ph : va_W → Prop) (xx : Nat → Nat → Nat → Prop) (mo : Nat) (mw : Nat) (ma : Nat) (mf : Nat) (m0 : Nat) (m1 : Nat) (mu : Nat) (mv : Nat) (u0 : Nat) (u1 : Nat) (iz : Nat) (mb : Nat) (th : Int32) (mn : Int32) (mpt : Int32) (mbg : Int32) (mwr : Int32) (mwk : Int32) (mlf : Int32) (men : Int32) (f : Nat → Int32) (G : Nat → Int32) (su : Nat → Int64) (p1 : Int32) (sz : Nat) (hT : ty_V ct S ph ws) (hph : ty_C ph xx) (hy1 : ty_y1 xx) (hy11 : ty_y0 xx 11) (hR : rf_R G (-1) f) : Met l yX11_advance (ws_ yX11_advance cX11_advance 3 (some .int)) ({ frames := 8, cells := 0, slots := 0, locals := 186 } : Room) (va_Pc [.ref mo, .int p1] (cmP D ct sz ([(rf_MO mo mw ma mf m0 m1 mu mv u0 u1 iz th mb mn mpt mbg mwr mwk mlf men), (rf_RW ct 0 mw 958 f), (mu, .inl (ct 1, 42, .inr (.inl su)))] ++ ws))) (va_Qi (fun (r : Int32) (u : va_W × Int32 × Int32 × (Nat → Int32) × (Nat → Int64)) => match u with | (u9, men1, th1, f1, su1) => ty_V ct S ph u9 ∧ (q_X11_advance men f G su p1 r men1 th1 f1 su1) ∧ rf_d (rp_av (f 8) p1) f f1 ∧ rf_R G (-1) f1) (cmB D ([(rf_MO mo mw ma mf m0 m1 mu mv u0 u1 iz th mb mn mpt mbg mwr mwk mlf men), (rf_RW ct 0 mw 958 f), (mu, .inl (ct 1, 42, .inr (.inl su)))] ++ ws) sz (fun (u : va_W × Int32 × Int32 × (Nat → Int32) × (Nat → Int64)) => match u with | (u9, men1, th1, f1, su1) => ([(rf_MO mo mw ma mf m0 m1 mu mv u0 u1 iz th1 mb mn mpt mbg mwr mwk mlf men1), (rf_RW ct 0 mw 958 f1), (mu, .inl (ct 1, 42, .inr (.inl su1)))] ++ u9))) (va_A ([(rf_MO mo mw ma mf m0 m1 mu mv u0 u1 iz th mb mn mpt mbg mwr mwk mlf men), (rf_RW ct 0 mw 958 f), (mu, .inl (ct 1, 42, .inr (.inl su)))] ++ ws) sz)) 0 0 (va_A ([(rf_MO mo mw ma mf m0 m1 mu mv u0 u1 iz th mb mn mpt mbg mwr mwk mlf men), (rf_RW ct 0 mw 958 f), (mu, .inl (ct 1, 42, .inr (.inl su)))] ++ ws) sz) := by
  refine Met.ofW (cc := cX11_advance) (maxL := 3) (ret := (some .int)) (by decide) rfl ?_
  intro p e s m args below meth c s₁ B hml hv
  obtain ⟨rfl, hsz, hP, hK, hD0, hX⟩ := hv
  have hx := B.exec
  have hb := B.bytes
  have hr := B.returns
  have hts := ws_all (atoms_spec (ws := ws_ yX11_advance cX11_advance 3 (some .int)) B.pre)
  have hown : s.vm.findClass RX11 = some m.cls := findClass_of_methodNamed B.named
  have hlocks := B.notSynchronized
  subst hsz
  have hD := hD0.self (sz := s.heap.size)
  generalize hAe : va_A ([(rf_MO mo mw ma mf m0 m1 mu mv u0 u1 iz th mb mn mpt mbg mwr mwk mlf men), (rf_RW ct 0 mw 958 f), (mu, .inl (ct 1, 42, .inr (.inl su)))] ++ ws) s.heap.size = A at hD hX ⊢
  have hA : ∀ q : Nat, s.heap.size ≤ q → A q := fun q h => by rw [← hAe]; exact Or.inr h
  have hS : va_S A s.heap s.heap [] := va_S.rf
  have hl := lv_entry ([.ref mo, .int p1]) (n := 3) (Nat.le_of_ble_eq_true rfl)
  rw [lg_entry_eq]
  generalize (lg_sl ([.ref mo, .int p1]) ++ List.replicate (3 - (lg_sl ([.ref mo, .int p1])).length) Slot.unset).toArray = ls at hl ⊢
  have hl : lv_has ls 3 [(0, .ref mo), (1, .int p1)] := hl
  refine lv_aload_n hx hb dX11_advance_0 rfl (lv_at hl 0 rfl) ?_
  refine lv_iconst (v := 0) hx hb dX11_advance_1 (by decide) ?_
  refine va_put (v := .int 0) (ty := .int) (D := D) (ci := 11) (C := RX11) (T := TX11) (N := 19) hx hb hts in_X11 tyX11 tyX11_ok nmX11 hown hK hP hD hS 0 rfl rfl 10 (by decide) (hts _ kl_RX11_49) (fun _ h9 => h9) rfl (by decide +kernel) rfl rfl (Nat.le_of_ble_eq_true rfl) dX11_advance_2 (fun H locs hP hD hS => ?_)
  have hP : va_P D vwCl ([(rf_MO mo mw ma mf m0 m1 mu mv u0 u1 iz (0) mb mn mpt mbg mwr mwk mlf men), (rf_RW ct 0 mw 958 f), (mu, .inl (ct 1, 42, .inr (.inl su)))] ++ ws) H := hP
  have hD : va_D A ([(rf_MO mo mw ma mf m0 m1 mu mv u0 u1 iz (0) mb mn mpt mbg mwr mwk mlf men), (rf_RW ct 0 mw 958 f), (mu, .inl (ct 1, 42, .inr (.inl su)))] ++ ws) := hD
  refine lv_aload_n hx hb dX11_advance_5 rfl (lv_at hl 0 rfl) ?_
  refine lv_iload_n hx hb dX11_advance_6 rfl (lv_at hl 1 rfl) ?_
  refine lv_i2l hx hb dX11_advance_7 rfl ?_
  refine lv_lconst (v := 1) hx hb dX11_advance_8 (by decide) ?_
  refine lv_ldc2 hx hb hown (hts _ kl_RX11_338) dX11_advance_9 ?_
  obtain ⟨hP, hD⟩ := ty_ipPD (E1 := [(rf_MO mo mw ma mf m0 m1 mu mv u0 u1 iz (0) mb mn mpt mbg mwr mwk mlf men), (rf_RW ct 0 mw 958 f), (mu, .inl (ct 1, 42, .inr (.inl su)))]) (E2 := []) hP hD rfl ty_mva
  refine ty_Ki hP hD hS hA (va_runS (As := [.long p1.toInt64, .long 1, .long 5000]) (rest := [.ref mo]) ⟨hx, hb, hml, hown, hts⟩ (m_X11_in l D ct S ws ph xx p1.toInt64 (1 : Int64) (5000 : Int64) _ hT hph hy1) (cm_S 3 hts kc_X11_in ki_RX11 kl_RX11_70 ks_X11_in kd_X11_in ⟨Nat.le_of_ble_eq_true rfl, Nat.le_of_ble_eq_true rfl⟩) (ty_preS hP hK hD hS hA hX) rfl rfl hl.1 rfl (lv_room (Nat.le_of_ble_eq_true rfl)) dX11_advance_12 ⟨Nat.le_of_ble_eq_true rfl, Nat.le_of_ble_eq_true rfl⟩) (fun r_1 u H locs hw_2 hP hD hS => ?_)
  obtain ⟨ws_3, rfl⟩ : ∃ z, z = u := ⟨_, rfl⟩
  obtain ⟨hT, rfl⟩ := hw_2
  obtain ⟨hP, hD⟩ := ty_shPD (w2 := ([(rf_MO mo mw ma mf m0 m1 mu mv u0 u1 iz (0) mb mn mpt mbg mwr mwk mlf men), (rf_RW ct 0 mw 958 f), (mu, .inl (ct 1, 42, .inr (.inl su)))] ++ ws_3)) hP hD rfl
  refine lv_if_ne (tgt := 22) hx hb dX11_advance_15 (by decide) (fun hc_4 => ?_) (fun hc_4 => ?_)
  · refine lv_iconst (v := 0) hx hb dX11_advance_22 (by decide) ?_
    refine lv_iconst (v := 1) hx hb dX11_advance_23 (by decide) ?_
    obtain ⟨hP, hD⟩ := ty_opPD (E1 := [(rf_RW ct 0 mw 958 f), (mu, .inl (ct 1, 42, .inr (.inl su)))]) (E2 := [(rf_MO mo mw ma mf m0 m1 mu mv u0 u1 iz (0) mb mn mpt mbg mwr mwk mlf men)]) (n := 3) [1, 2, 0] hP hD rfl rfl (by decide +kernel) ty_mva
    refine ty_Ki hP hD hS hA (va_runV (As := [.int 0, .int 1]) (rest := []) ⟨hx, hb, hml, hown, hts⟩ (m_throwsIf_0 l D ct S ws_3 ph xx mo mw ma mf m0 m1 mu mv u0 u1 iz mb mn mpt mbg mwr mwk mlf men (0 : Int32) (1 : Int32) _ hT hph hy1 (by decide)) (cm_V 2 hts kc_X11_throwsIf ki_RX11 kl_RX11_328 kv_X11_throwsIf kx_X11_throwsIf kd_X11_throwsIf ⟨Nat.le_of_ble_eq_true rfl, Nat.le_of_ble_eq_true rfl⟩) (ty_preE (ci := 11) (q0 := 2) hP hK hD hS hA hX rfl rfl) rfl rfl hl.1 rfl (lv_room (Nat.le_of_ble_eq_true rfl)) dX11_advance_24 ⟨Nat.le_of_ble_eq_true rfl, Nat.le_of_ble_eq_true rfl⟩) (fun r_5 u H locs hw_6 hP hD hS => ?_)
    obtain ⟨ws_7, th1_8⟩ := u
    obtain ⟨hT, hp_9⟩ := hw_6
    have hp_9 : ((r_5 = 0 ∧ (0 : Int32) = 0 ∧ th1_8 = 0) ∨ (r_5 = 1 ∧ ¬ (0 : Int32) = 0 ∧ th1_8 = (1 : Int32))) := hp_9
    obtain ⟨hP, hD⟩ := ty_shPD (w2 := ([(rf_RW ct 0 mw 958 f), (mu, .inl (ct 1, 42, .inr (.inl su))), (rf_MO mo mw ma mf m0 m1 mu mv u0 u1 iz th1_8 mb mn mpt mbg mwr mwk mlf men)] ++ ws_7)) hP hD rfl
    rcases hp_9 with ⟨rfl, hz_10⟩ | ⟨rfl, hz_11⟩
    · have he_12 := hz_10.2
      have hP : va_P D vwCl ([(rf_RW ct 0 mw 958 f), (mu, .inl (ct 1, 42, .inr (.inl su))), (rf_MO mo mw ma mf m0 m1 mu mv u0 u1 iz (0) mb mn mpt mbg mwr mwk mlf men)] ++ ws_7) H := by rw [he_12] at hP; exact hP
      have hD : va_D A ([(rf_RW ct 0 mw 958 f), (mu, .inl (ct 1, 42, .inr (.inl su))), (rf_MO mo mw ma mf m0 m1 mu mv u0 u1 iz (0) mb mn mpt mbg mwr mwk mlf men)] ++ ws_7) := by rw [he_12] at hD; exact hD
      refine lv_if_eq (tgt := 32) hx hb dX11_advance_27 (by decide) (fun _ => ?_) (fun hc => absurd (by decide) hc)
      refine lv_aload_n hx hb dX11_advance_32 rfl (lv_at hl 0 rfl) ?_
      refine va_get (v := .ref mw) (D := D) (ci := 11) (C := RX11) (T := TX11) (N := 19) hx hb hts in_X11 hown hK hP 2 rfl rfl 0 (by decide) (hts _ kl_RX11_9) (fun _ h9 => h9) rfl dX11_advance_33 ?_
      refine lv_bipush (v := 8) hx hb dX11_advance_36 (by decide) ?_
      refine va_iald hx hb hK hP 0 0 rfl rfl (cm_vin (by decide)) dX11_advance_38 ?_
      refine cm_cst (y := (f 8)) (by first | rfl | decide +kernel) ?_
      refine lv_iload_n hx hb dX11_advance_39 rfl (lv_at hl 1 rfl) ?_
      refine lv_iadd hx hb dX11_advance_40 ?_
      refine lv_ldcw hx hb hown (hts _ kl_RX11_340) dX11_advance_41 ?_
      refine lv_icmp_le (tgt := 50) hx hb dX11_advance_44 (by decide) (fun hc_13 => ?_) (fun hc_13 => ?_)
      · refine lv_aload_n hx hb dX11_advance_50 rfl (lv_at hl 0 rfl) ?_
        refine lv_iconst (v := 0) hx hb dX11_advance_51 (by decide) ?_
        refine va_put (v := .int 0) (ty := .int) (D := D) (ci := 11) (C := RX11) (T := TX11) (N := 19) hx hb hts in_X11 tyX11 tyX11_ok nmX11 hown hK hP hD hS 2 rfl rfl 18 (by decide) (hts _ kl_RX11_300) (fun _ h9 => h9) rfl (by decide +kernel) rfl rfl (Nat.le_of_ble_eq_true rfl) dX11_advance_52 (fun H locs hP hD hS => ?_)
        have hP : va_P D vwCl ([(rf_RW ct 0 mw 958 f), (mu, .inl (ct 1, 42, .inr (.inl su))), (rf_MO mo mw ma mf m0 m1 mu mv u0 u1 iz (0) mb mn mpt mbg mwr mwk mlf (0))] ++ ws_7) H := hP
        have hD : va_D A ([(rf_RW ct 0 mw 958 f), (mu, .inl (ct 1, 42, .inr (.inl su))), (rf_MO mo mw ma mf m0 m1 mu mv u0 u1 iz (0) mb mn mpt mbg mwr mwk mlf (0))] ++ ws_7) := hD
        refine lv_iconst (v := 0) hx hb dX11_advance_55 (by decide) ?_
        refine lv_istore_n (lv' := [(2, .int 0), (0, .ref mo), (1, .int p1)]) hx hb dX11_advance_56 rfl hl (by decide) rfl (fun ls hl => ?_)
        refine ty_loop (I := fun μ H locs ls => ∃ (ws : va_W) (y_14 : Int32) (y_15 : Int32) (f_16 : Nat → Int32) (g_17 : Nat → Int64), μ = (2147483648 - y_14.toInt).toNat ∧ ty_V ct S ph ws ∧ va_P D vwCl ([(rf_RW ct 0 mw 958 f_16), (mu, .inl (ct 1, 42, .inr (.inl g_17))), (rf_MO mo mw ma mf m0 m1 mu mv u0 u1 iz (0) mb mn mpt mbg mwr mwk mlf y_15)] ++ ws) H ∧ va_D A ([(rf_RW ct 0 mw 958 f_16), (mu, .inl (ct 1, 42, .inr (.inl g_17))), (rf_MO mo mw ma mf m0 m1 mu mv u0 u1 iz (0) mb mn mpt mbg mwr mwk mlf y_15)] ++ ws) ∧ va_S A s.heap H locs ∧ lv_has ls 3 [(0, .ref mo), (1, .int p1), (2, .int y_14)] ∧ rf_R G (-1) f_16 ∧ rf_d ((f 8) + y_14) f f_16 ∧ (0 ≤ y_14.toInt ∧ y_14.toInt ≤ p1.toInt) ∧ q_ta G y_14.toInt.toNat 0 f su y_15 f_16 g_17) ⟨_, ws_7, (0 : Int32), (0 : Int32), f, su, rfl, hT, hP, hD, hS, (lv_sub hl [1, 2, 0] rfl), hR, (rf_da0 (rf_dr f)), ⟨⟨by decide, (by have := (rf_rngc (L := 1) (U := 5000) (by decide) (by decide) hc_4); have z : (0 : Int32).toInt = 0 := (by decide); omega)⟩, q_ta0⟩⟩ (fun μ H locs ls hI ih_57 => ?_)
        obtain ⟨ws, y_14, y_15, f_16, g_17, rfl, hT, hP, hD, hS, hl, hR_57, hD_57, hex_57⟩ := hI
        refine lv_iload_n hx hb dX11_advance_57 rfl (lv_at hl 2 rfl) ?_
        refine lv_iload_n hx hb dX11_advance_58 rfl (lv_at hl 1 rfl) ?_
        refine lv_icmp_ge (tgt := 72) hx hb dX11_advance_59 (by decide) (fun hc_18 => ?_) (fun hc_18 => ?_)
        · refine lv_aload_n hx hb dX11_advance_72 rfl (lv_at hl 0 rfl) ?_
          refine va_get (v := .int y_15) (D := D) (ci := 11) (C := RX11) (T := TX11) (N := 19) hx hb hts in_X11 hown hK hP 2 rfl rfl 18 (by decide) (hts _ kl_RX11_300) (fun _ h9 => h9) rfl dX11_advance_73 ?_
          obtain ⟨hP, hD⟩ := ty_ordPD (E2 := [(rf_MO mo mw ma mf m0 m1 mu mv u0 u1 iz (0) mb mn mpt mbg mwr mwk mlf y_15), (rf_RW ct 0 mw 958 f_16), (mu, .inl (ct 1, 42, .inr (.inl g_17)))]) (n := 3) [2, 0, 1] hP hD rfl rfl (by decide +kernel)
          exact W.iret (v := y_15) hx hb hr (fun t ht hW => ⟨⟨y_15, (ws, y_15, (0 : Int32), f_16, g_17), rfl, ⟨hT, ⟨(Or.inl ⟨hc_4, ⟨th1_8, trivial, ⟨hz_10, (Or.inl ⟨hc_13, ⟨y_14, y_15, f_16, g_17, hex_57, ⟨hc_18, ⟨rfl, rfl, rfl, rfl, rfl⟩⟩⟩⟩)⟩⟩⟩), ⟨(rf_adT (rf_rngc (L := 1) (U := 5000) (by decide) (by decide) hc_4) hc_13 hex_57.1 hc_18 hD_57), hR_57⟩⟩⟩, by rw [ht]; exact hP, by rw [hAe]; exact hD⟩, hS.F ht⟩) hS.2.2 dX11_advance_76
        · refine lv_aload_n hx hb dX11_advance_62 rfl (lv_at hl 0 rfl) ?_
          obtain ⟨hP, hD⟩ := ty_opPD (E1 := []) (E2 := [(rf_MO mo mw ma mf m0 m1 mu mv u0 u1 iz (0) mb mn mpt mbg mwr mwk mlf y_15), (rf_RW ct 0 mw 958 f_16), (mu, .inl (ct 1, 42, .inr (.inl g_17)))]) (n := 3) [2, 0, 1] hP hD rfl rfl (by decide +kernel) ty_mva
          refine ty_Kv hP hD hS hA (va_runV (As := []) (rest := []) ⟨hx, hb, hml, hown, hts⟩ (m_X11_ticks l D ct S ws ph xx mo mw ma mf m0 m1 mu mv u0 u1 iz mb (0 : Int32) mn mpt mbg mwr mwk mlf y_15 f_16 G g_17 _ hT hph hy1 hy11 hR_57) (cm_V 0 hts kc_X11_ticks ki_RX11 kl_RX11_341 kv_X11_ticks kx_X11_ticks kd_X11_ticks ⟨Nat.le_of_ble_eq_true rfl, Nat.le_of_ble_eq_true rfl⟩) (ty_preE (ci := 11) (q0 := 0) hP hK hD hS hA hX rfl rfl) rfl rfl hl.1 rfl (lv_room (Nat.le_of_ble_eq_true rfl)) dX11_advance_63 ⟨Nat.le_of_ble_eq_true rfl, Nat.le_of_ble_eq_true rfl⟩) (fun u H locs hw_20 hP hD hS => ?_)
          obtain ⟨ws_21, men1_22, f1_23, su1_24⟩ := u
          obtain ⟨hT, hp_25⟩ := hw_20
          have hp_25 : (q_X11_ticks y_15 f_16 G g_17 men1_22 f1_23 su1_24) ∧ rf_d ((f_16 8) + 1) f_16 f1_23 ∧ rf_R G (-1) f1_23 := hp_25
          obtain ⟨hq_26, hp_27⟩ := hp_25
          obtain ⟨hd_28, hq_29⟩ := hp_27
          have hD_30 := rf_d1 hD_57 hd_28
          have hR_31 := hq_29
          obtain ⟨hP, hD⟩ := ty_shPD (w2 := ([(rf_MO mo mw ma mf m0 m1 mu mv u0 u1 iz (0) mb mn mpt mbg mwr mwk mlf men1_22), (rf_RW ct 0 mw 958 f1_23), (mu, .inl (ct 1, 42, .inr (.inl su1_24)))] ++ ws_21)) hP hD rfl
          refine lv_iinc (v := (y_14 + Int32.ofInt 1)) (lv' := [(2, .int (y_14 + Int32.ofInt 1)), (0, .ref mo), (1, .int p1)]) hx hb dX11_advance_66 hl (k := 2) rfl rfl (by decide) rfl (fun ls hl => ?_)
          refine lv_goto (tgt := 57) hx hb dX11_advance_69 (by decide) ?_
          obtain ⟨hP, hD⟩ := ty_ordPD (E2 := [(rf_RW ct 0 mw 958 f1_23), (mu, .inl (ct 1, 42, .inr (.inl su1_24))), (rf_MO mo mw ma mf m0 m1 mu mv u0 u1 iz (0) mb mn mpt mbg mwr mwk mlf men1_22)]) (n := 3) [1, 2, 0] hP hD rfl rfl (by decide +kernel)
          exact ih_57 _ _ _ _ (ty_inc (cm_lt hc_18)) ⟨ws_21, (y_14 + Int32.ofInt 1), men1_22, f1_23, su1_24, rfl, hT, hP, hD, hS, (lv_sub hl [1, 2, 0] rfl), hR_31, (rf_da1 hD_30), ⟨rf_ad1 hex_57.1 hc_18, q_tas hex_57.1.1 hc_18 hex_57.2 hq_26⟩⟩
      · refine lv_bipush (v := (-2)) hx hb dX11_advance_47 (by decide) ?_
        obtain ⟨hP, hD⟩ := ty_ordPD (E2 := [(rf_MO mo mw ma mf m0 m1 mu mv u0 u1 iz (0) mb mn mpt mbg mwr mwk mlf men), (rf_RW ct 0 mw 958 f), (mu, .inl (ct 1, 42, .inr (.inl su)))]) (n := 3) [2, 0, 1] hP hD rfl rfl (by decide +kernel)
        exact W.iret (v := (-2)) hx hb hr (fun t ht hW => ⟨⟨(-2), (ws_7, men, (0 : Int32), f, su), rfl, ⟨hT, ⟨(Or.inl ⟨hc_4, ⟨th1_8, trivial, ⟨hz_10, (Or.inr ⟨hc_13, ⟨rfl, rfl, rfl, rfl, rfl⟩⟩)⟩⟩⟩), ⟨(rf_adF hc_13 (rf_dr f)), hR⟩⟩⟩, by rw [ht]; exact hP, by rw [hAe]; exact hD⟩, hS.F ht⟩) hS.2.2 dX11_advance_49
    · exact absurd rfl hz_11.1
  · refine lv_iconst (v := 1) hx hb dX11_advance_18 (by decide) ?_
    refine lv_goto (tgt := 23) hx hb dX11_advance_19 (by decide) ?_
    refine lv_iconst (v := 1) hx hb dX11_advance_23 (by decide) ?_
    obtain ⟨hP, hD⟩ := ty_opPD (E1 := [(rf_RW ct 0 mw 958 f), (mu, .inl (ct 1, 42, .inr (.inl su)))]) (E2 := [(rf_MO mo mw ma mf m0 m1 mu mv u0 u1 iz (0) mb mn mpt mbg mwr mwk mlf men)]) (n := 3) [1, 2, 0] hP hD rfl rfl (by decide +kernel) ty_mva
    refine ty_Ki hP hD hS hA (va_runV (As := [.int 1, .int 1]) (rest := []) ⟨hx, hb, hml, hown, hts⟩ (m_throwsIf_0 l D ct S ws_3 ph xx mo mw ma mf m0 m1 mu mv u0 u1 iz mb mn mpt mbg mwr mwk mlf men (1 : Int32) (1 : Int32) _ hT hph hy1 (by decide)) (cm_V 2 hts kc_X11_throwsIf ki_RX11 kl_RX11_328 kv_X11_throwsIf kx_X11_throwsIf kd_X11_throwsIf ⟨Nat.le_of_ble_eq_true rfl, Nat.le_of_ble_eq_true rfl⟩) (ty_preE (ci := 11) (q0 := 2) hP hK hD hS hA hX rfl rfl) rfl rfl hl.1 rfl (lv_room (Nat.le_of_ble_eq_true rfl)) dX11_advance_24 ⟨Nat.le_of_ble_eq_true rfl, Nat.le_of_ble_eq_true rfl⟩) (fun r_33 u H locs hw_34 hP hD hS => ?_)
    obtain ⟨ws_35, th1_36⟩ := u
    obtain ⟨hT, hp_37⟩ := hw_34
    have hp_37 : ((r_33 = 0 ∧ (1 : Int32) = 0 ∧ th1_36 = 0) ∨ (r_33 = 1 ∧ ¬ (1 : Int32) = 0 ∧ th1_36 = (1 : Int32))) := hp_37
    obtain ⟨hP, hD⟩ := ty_shPD (w2 := ([(rf_RW ct 0 mw 958 f), (mu, .inl (ct 1, 42, .inr (.inl su))), (rf_MO mo mw ma mf m0 m1 mu mv u0 u1 iz th1_36 mb mn mpt mbg mwr mwk mlf men)] ++ ws_35)) hP hD rfl
    rcases hp_37 with ⟨rfl, hz_38⟩ | ⟨rfl, hz_39⟩
    · exact absurd hz_38.1 (by decide)
    · have he_40 := hz_39.2
      have hP : va_P D vwCl ([(rf_RW ct 0 mw 958 f), (mu, .inl (ct 1, 42, .inr (.inl su))), (rf_MO mo mw ma mf m0 m1 mu mv u0 u1 iz (1) mb mn mpt mbg mwr mwk mlf men)] ++ ws_35) H := by rw [he_40] at hP; exact hP
      have hD : va_D A ([(rf_RW ct 0 mw 958 f), (mu, .inl (ct 1, 42, .inr (.inl su))), (rf_MO mo mw ma mf m0 m1 mu mv u0 u1 iz (1) mb mn mpt mbg mwr mwk mlf men)] ++ ws_35) := by rw [he_40] at hD; exact hD
      refine lv_if_eq (tgt := 32) hx hb dX11_advance_27 (by decide) (fun hc => absurd hc (by decide)) (fun _ => ?_)
      refine lv_iconst (v := 0) hx hb dX11_advance_30 (by decide) ?_
      obtain ⟨hP, hD⟩ := ty_ordPD (E2 := [(rf_MO mo mw ma mf m0 m1 mu mv u0 u1 iz (1) mb mn mpt mbg mwr mwk mlf men), (rf_RW ct 0 mw 958 f), (mu, .inl (ct 1, 42, .inr (.inl su)))]) (n := 3) [2, 0, 1] hP hD rfl rfl (by decide +kernel)
      exact W.iret (v := 0) hx hb hr (fun t ht hW => ⟨⟨0, (ws_35, men, (1 : Int32), f, su), rfl, ⟨hT, ⟨(Or.inr ⟨hc_4, ⟨th1_36, trivial, ⟨hz_39, ⟨rfl, rfl, rfl, rfl, rfl⟩⟩⟩⟩), ⟨(rf_adX (rf_rngn (L := 1) (U := 5000) (by decide) (by decide) hc_4) (rf_dr f)), hR⟩⟩⟩, by rw [ht]; exact hP, by rw [hAe]; exact hD⟩, hS.F ht⟩) hS.2.2 dX11_advance_31
def q_X11_start (f : Nat → Int32) (G : Nat → Int32) (su : Nat → Int64) (p1 : Int32) (p2 : Int32) (r : Int32) (th1 : Int32) (f1 : Nat → Int32) (su1 : Nat → Int64) : Prop := (∃ (th1_4 : Int32), True ∧ (((((0 ≤ p1.toInt ∧ p1.toInt < (G 9).toInt) ∧ 0 ≤ p2.toInt ∧ p2.toInt < (G 10).toInt) ∧ th1_4 = 0) ∧ ((¬ rf_of f p1 0 = (0 : Int32) ∧ ((¬ rf_of f p1 0 = (3 : Int32) ∧ (r = (-3) ∧ th1 = 0 ∧ f1 = f ∧ su1 = su)) ∨ (rf_of f p1 0 = (3 : Int32) ∧ (∃ (f1_24 : Nat → Int32) (su1_25 : Nat → Int64), (q_X11_startsOn f su p1 p2 f1_24 su1_25) ∧ (∃ (y_34 : Int32) (y_35 : Int32), ((0 ≤ y_35.toInt ∧ y_35.toInt ≤ (G 9).toInt) ∧ y_34 = q_rn f1_24 y_35.toInt.toNat) ∧ ((f1_24 9) ≤ y_35 ∧ (r = y_34 ∧ th1 = 0 ∧ f1 = f1_24 ∧ su1 = su1_25))))))) ∨ (rf_of f p1 0 = (0 : Int32) ∧ (∃ (f1_46 : Nat → Int32) (su1_47 : Nat → Int64), (q_X11_startsOn f su p1 p2 f1_46 su1_47) ∧ (∃ (y_56 : Int32) (y_57 : Int32), ((0 ≤ y_57.toInt ∧ y_57.toInt ≤ (G 9).toInt) ∧ y_56 = q_rn f1_46 y_57.toInt.toNat) ∧ ((f1_46 9) ≤ y_57 ∧ (r = y_56 ∧ th1 = 0 ∧ f1 = f1_46 ∧ su1 = su1_47))))))) ∨ ((¬ ((0 ≤ p1.toInt ∧ p1.toInt < (G 9).toInt) ∧ 0 ≤ p2.toInt ∧ p2.toInt < (G 10).toInt) ∧ th1_4 = 1) ∧ (r = 0 ∧ th1 = 1 ∧ f1 = f ∧ su1 = su))))
set_option maxRecDepth 100000 in
set_option maxHeartbeats 4000000 in
theorem m_X11_start (l : Launch) (D : va_G) (ct : Nat → ClassId) (S : ty_S) (ws : va_W) (ph : va_W → Prop) (xx : Nat → Nat → Nat → Prop) (mo : Nat) (mw : Nat) (ma : Nat) (mf : Nat) (m0 : Nat) (m1 : Nat) (mu : Nat) (mv : Nat) (u0 : Nat) (u1 : Nat) (iz : Nat) (mb : Nat) (th : Int32) (mn : Int32) (mpt : Int32) (mbg : Int32) (mwr : Int32) (mwk : Int32) (mlf : Int32) (men : Int32) (f : Nat → Int32) (G : Nat → Int32) (su : Nat → Int64) (p1 : Int32) (p2 : Int32) (sz : Nat) (hT : ty_V ct S ph ws) (hph : ty_C ph xx) (hy1 : ty_y1 xx) (hy11 : ty_y0 xx 11) (hR : rf_R G (-1) f) : Met l yX11_start (ws_ yX11_start cX11_start 5 (some .int)) ({ frames := 3, cells := 0, slots := 0, locals := 72 } : Room) (va_Pc [.ref mo, .int p1, .int p2] (cmP D ct sz ([(rf_MO mo mw ma mf m0 m1 mu mv u0 u1 iz th mb mn mpt mbg mwr mwk mlf men), (rf_RW ct 0 mw 958 f), (mu, .inl (ct 1, 42, .inr (.inl su)))] ++ ws))) (va_Qi (fun (r : Int32) (u : va_W × Int32 × (Nat → Int32) × (Nat → Int64)) => match u with | (u9, th1, f1, su1) => ty_V ct S ph u9 ∧ (q_X11_start f G su p1 p2 r th1 f1 su1) ∧ rf_d (f 8) f f1 ∧ rf_R G (-1) f1) (cmB D ([(rf_MO mo mw ma mf m0 m1 mu mv u0 u1 iz th mb mn mpt mbg mwr mwk mlf men), (rf_RW ct 0 mw 958 f), (mu, .inl (ct 1, 42, .inr (.inl su)))] ++ ws) sz (fun (u : va_W × Int32 × (Nat → Int32) × (Nat → Int64)) => match u with | (u9, th1, f1, su1) => ([(rf_MO mo mw ma mf m0 m1 mu mv u0 u1 iz th1 mb mn mpt mbg mwr mwk mlf men), (rf_RW ct 0 mw 958 f1), (mu, .inl (ct 1, 42, .inr (.inl su1)))] ++ u9))) (va_A ([(rf_MO mo mw ma mf m0 m1 mu mv u0 u1 iz th mb mn mpt mbg mwr mwk mlf men), (rf_RW ct 0 mw 958 f), (mu, .inl (ct 1, 42, .inr (.inl su)))] ++ ws) sz)) 0 0 (va_A ([(rf_MO mo mw ma mf m0 m1 mu mv u0 u1 iz th mb mn mpt mbg mwr mwk mlf men), (rf_RW ct 0 mw 958 f), (mu, .inl (ct 1, 42, .inr (.inl su)))] ++ ws) sz) := by
  refine Met.ofW (cc := cX11_start) (maxL := 5) (ret := (some .int)) (by decide) rfl ?_
  intro p e s m args below meth c s₁ B hml hv
  obtain ⟨rfl, hsz, hP, hK, hD0, hX⟩ := hv
  have hx := B.exec
  have hb := B.bytes
  have hr := B.returns
  have hts := ws_all (atoms_spec (ws := ws_ yX11_start cX11_start 5 (some .int)) B.pre)
  have hown : s.vm.findClass RX11 = some m.cls := findClass_of_methodNamed B.named
  have hlocks := B.notSynchronized
  subst hsz
  have hD := hD0.self (sz := s.heap.size)
  generalize hAe : va_A ([(rf_MO mo mw ma mf m0 m1 mu mv u0 u1 iz th mb mn mpt mbg mwr mwk mlf men), (rf_RW ct 0 mw 958 f), (mu, .inl (ct 1, 42, .inr (.inl su)))] ++ ws) s.heap.size = A at hD hX ⊢
  have hA : ∀ q : Nat, s.heap.size ≤ q → A q := fun q h => by rw [← hAe]; exact Or.inr h
  have hS : va_S A s.heap s.heap [] := va_S.rf
  have hl := lv_entry ([.ref mo, .int p1, .int p2]) (n := 5) (Nat.le_of_ble_eq_true rfl)
  rw [lg_entry_eq]
  generalize (lg_sl ([.ref mo, .int p1, .int p2]) ++ List.replicate (5 - (lg_sl ([.ref mo, .int p1, .int p2])).length) Slot.unset).toArray = ls at hl ⊢
  have hl : lv_has ls 5 [(0, .ref mo), (1, .int p1), (2, .int p2)] := hl
  refine lv_aload_n hx hb dX11_start_0 rfl (lv_at hl 0 rfl) ?_
  refine lv_iload_n hx hb dX11_start_1 rfl (lv_at hl 1 rfl) ?_
  refine lv_iload_n hx hb dX11_start_2 rfl (lv_at hl 2 rfl) ?_
  obtain ⟨hP, hD⟩ := ty_opPD (E1 := [(mu, .inl (ct 1, 42, .inr (.inl su)))]) (E2 := [(rf_MO mo mw ma mf m0 m1 mu mv u0 u1 iz th mb mn mpt mbg mwr mwk mlf men), (rf_RW ct 0 mw 958 f)]) (n := 3) [2, 0, 1] hP hD rfl rfl (by decide +kernel) ty_mva
  refine ty_Ki hP hD hS hA (va_runV (As := [.int p1, .int p2]) (rest := []) ⟨hx, hb, hml, hown, hts⟩ (m_X11_noProgram l D ct S ws ph xx mo mw ma mf m0 m1 mu mv u0 u1 iz mb th mn mpt mbg mwr mwk mlf men f G (-1) p1 p2 _ hT hph hy1 hR) (cm_V 2 hts kc_X11_noProgram ki_RX11 kl_RX11_347 kv_X11_noProgram kx_X11_noProgram kd_X11_noProgram ⟨Nat.le_of_ble_eq_true rfl, Nat.le_of_ble_eq_true rfl⟩) (ty_preE (ci := 11) (q0 := 1) hP hK hD hS hA hX rfl rfl) rfl rfl hl.1 rfl (lv_room (Nat.le_of_ble_eq_true rfl)) dX11_start_3 ⟨Nat.le_of_ble_eq_true rfl, Nat.le_of_ble_eq_true rfl⟩) (fun r_1 u H locs hw_2 hP hD hS => ?_)
  obtain ⟨ws_3, th1_4⟩ := u
  obtain ⟨hT, hp_5⟩ := hw_2
  have hp_5 : ((r_1 = 0 ∧ ((0 ≤ p1.toInt ∧ p1.toInt < (G 9).toInt) ∧ 0 ≤ p2.toInt ∧ p2.toInt < (G 10).toInt) ∧ th1_4 = 0) ∨ (r_1 = 1 ∧ ¬ ((0 ≤ p1.toInt ∧ p1.toInt < (G 9).toInt) ∧ 0 ≤ p2.toInt ∧ p2.toInt < (G 10).toInt) ∧ th1_4 = 1)) := hp_5
  obtain ⟨hP, hD⟩ := ty_shPD (w2 := ([(mu, .inl (ct 1, 42, .inr (.inl su))), (rf_MO mo mw ma mf m0 m1 mu mv u0 u1 iz th1_4 mb mn mpt mbg mwr mwk mlf men), (rf_RW ct 0 mw 958 f)] ++ ws_3)) hP hD rfl
  rcases hp_5 with ⟨rfl, hz_6⟩ | ⟨rfl, hz_7⟩
  · have he_8 := hz_6.2
    have hP : va_P D vwCl ([(mu, .inl (ct 1, 42, .inr (.inl su))), (rf_MO mo mw ma mf m0 m1 mu mv u0 u1 iz (0) mb mn mpt mbg mwr mwk mlf men), (rf_RW ct 0 mw 958 f)] ++ ws_3) H := by rw [he_8] at hP; exact hP
    have hD : va_D A ([(mu, .inl (ct 1, 42, .inr (.inl su))), (rf_MO mo mw ma mf m0 m1 mu mv u0 u1 iz (0) mb mn mpt mbg mwr mwk mlf men), (rf_RW ct 0 mw 958 f)] ++ ws_3) := by rw [he_8] at hD; exact hD
    refine lv_if_eq (tgt := 11) hx hb dX11_start_6 (by decide) (fun _ => ?_) (fun hc => absurd (by decide) hc)
    refine lv_aload_n hx hb dX11_start_11 rfl (lv_at hl 0 rfl) ?_
    refine lv_iload_n hx hb dX11_start_12 rfl (lv_at hl 1 rfl) ?_
    refine lv_iconst (v := 0) hx hb dX11_start_13 (by decide) ?_
    obtain ⟨hP, hD⟩ := ty_ipPD (E1 := [(mu, .inl (ct 1, 42, .inr (.inl su)))]) (E2 := [(rf_MO mo mw ma mf m0 m1 mu mv u0 u1 iz (0) mb mn mpt mbg mwr mwk mlf men), (rf_RW ct 0 mw 958 f)]) hP hD rfl ty_mva
    refine ty_Ki hP hD hS hA (va_runV (As := [.int p1, .int 0]) (rest := []) ⟨hx, hb, hml, hown, hts⟩ (m_X11_isIn l D ct S ws_3 ph xx mo mw ma mf m0 m1 mu mv u0 u1 iz mb (0 : Int32) mn mpt mbg mwr mwk mlf men f G (-1) p1 (0 : Int32) _ hT hph hy1 hR hz_6.1.1) (cm_V 2 hts kc_X11_isIn ki_RX11 kl_RX11_350 kv_X11_isIn kx_X11_isIn kd_X11_isIn ⟨Nat.le_of_ble_eq_true rfl, Nat.le_of_ble_eq_true rfl⟩) (ty_preE (ci := 11) (q0 := 1) hP hK hD hS hA hX rfl rfl) rfl rfl hl.1 rfl (lv_room (Nat.le_of_ble_eq_true rfl)) dX11_start_14 ⟨Nat.le_of_ble_eq_true rfl, Nat.le_of_ble_eq_true rfl⟩) (fun r_9 u H locs hw_10 hP hD hS => ?_)
    obtain ⟨ws_11, rfl⟩ : ∃ z, z = u := ⟨_, rfl⟩
    obtain ⟨hT, hp_12⟩ := hw_10
    have hp_12 : ((r_9 = 0 ∧ ¬ rf_of f p1 0 = (0 : Int32)) ∨ (r_9 = 1 ∧ rf_of f p1 0 = (0 : Int32))) := hp_12
    obtain ⟨hP, hD⟩ := ty_shPD (w2 := ([(mu, .inl (ct 1, 42, .inr (.inl su))), (rf_MO mo mw ma mf m0 m1 mu mv u0 u1 iz (0) mb mn mpt mbg mwr mwk mlf men), (rf_RW ct 0 mw 958 f)] ++ ws_11)) hP hD rfl
    rcases hp_12 with ⟨rfl, hz_13⟩ | ⟨rfl, hz_14⟩
    · refine lv_if_ne (tgt := 32) hx hb dX11_start_17 (by decide) (fun hc => absurd (by decide) hc) (fun _ => ?_)
      refine lv_aload_n hx hb dX11_start_20 rfl (lv_at hl 0 rfl) ?_
      refine lv_iload_n hx hb dX11_start_21 rfl (lv_at hl 1 rfl) ?_
      refine lv_iconst (v := 3) hx hb dX11_start_22 (by decide) ?_
      obtain ⟨hP, hD⟩ := ty_ipPD (E1 := [(mu, .inl (ct 1, 42, .inr (.inl su)))]) (E2 := [(rf_MO mo mw ma mf m0 m1 mu mv u0 u1 iz (0) mb mn mpt mbg mwr mwk mlf men), (rf_RW ct 0 mw 958 f)]) hP hD rfl ty_mva
      refine ty_Ki hP hD hS hA (va_runV (As := [.int p1, .int 3]) (rest := []) ⟨hx, hb, hml, hown, hts⟩ (m_X11_isIn l D ct S ws_11 ph xx mo mw ma mf m0 m1 mu mv u0 u1 iz mb (0 : Int32) mn mpt mbg mwr mwk mlf men f G (-1) p1 (3 : Int32) _ hT hph hy1 hR hz_6.1.1) (cm_V 2 hts kc_X11_isIn ki_RX11 kl_RX11_350 kv_X11_isIn kx_X11_isIn kd_X11_isIn ⟨Nat.le_of_ble_eq_true rfl, Nat.le_of_ble_eq_true rfl⟩) (ty_preE (ci := 11) (q0 := 1) hP hK hD hS hA hX rfl rfl) rfl rfl hl.1 rfl (lv_room (Nat.le_of_ble_eq_true rfl)) dX11_start_23 ⟨Nat.le_of_ble_eq_true rfl, Nat.le_of_ble_eq_true rfl⟩) (fun r_15 u H locs hw_16 hP hD hS => ?_)
      obtain ⟨ws_17, rfl⟩ : ∃ z, z = u := ⟨_, rfl⟩
      obtain ⟨hT, hp_18⟩ := hw_16
      have hp_18 : ((r_15 = 0 ∧ ¬ rf_of f p1 0 = (3 : Int32)) ∨ (r_15 = 1 ∧ rf_of f p1 0 = (3 : Int32))) := hp_18
      obtain ⟨hP, hD⟩ := ty_shPD (w2 := ([(mu, .inl (ct 1, 42, .inr (.inl su))), (rf_MO mo mw ma mf m0 m1 mu mv u0 u1 iz (0) mb mn mpt mbg mwr mwk mlf men), (rf_RW ct 0 mw 958 f)] ++ ws_17)) hP hD rfl
      rcases hp_18 with ⟨rfl, hz_19⟩ | ⟨rfl, hz_20⟩
      · refine lv_if_ne (tgt := 32) hx hb dX11_start_26 (by decide) (fun hc => absurd (by decide) hc) (fun _ => ?_)
        refine lv_bipush (v := (-3)) hx hb dX11_start_29 (by decide) ?_
        obtain ⟨hP, hD⟩ := ty_ordPD (E2 := [(rf_MO mo mw ma mf m0 m1 mu mv u0 u1 iz (0) mb mn mpt mbg mwr mwk mlf men), (rf_RW ct 0 mw 958 f), (mu, .inl (ct 1, 42, .inr (.inl su)))]) (n := 3) [1, 2, 0] hP hD rfl rfl (by decide +kernel)
        exact W.iret (v := (-3)) hx hb hr (fun t ht hW => ⟨⟨(-3), (ws_17, (0 : Int32), f, su), rfl, ⟨hT, ⟨⟨th1_4, trivial, (Or.inl ⟨hz_6, (Or.inl ⟨hz_13, (Or.inl ⟨hz_19, ⟨rfl, rfl, rfl, rfl⟩⟩)⟩)⟩)⟩, ⟨(rf_dr f), hR⟩⟩⟩, by rw [ht]; exact hP, by rw [hAe]; exact hD⟩, hS.F ht⟩) hS.2.2 dX11_start_31
      · refine lv_if_ne (tgt := 32) hx hb dX11_start_26 (by decide) (fun _ => ?_) (fun hc => absurd hc (by decide))
        refine lv_aload_n hx hb dX11_start_32 rfl (lv_at hl 0 rfl) ?_
        refine lv_iload_n hx hb dX11_start_33 rfl (lv_at hl 1 rfl) ?_
        refine lv_iload_n hx hb dX11_start_34 rfl (lv_at hl 2 rfl) ?_
        obtain ⟨hP, hD⟩ := ty_opPD (E1 := []) (E2 := [(rf_MO mo mw ma mf m0 m1 mu mv u0 u1 iz (0) mb mn mpt mbg mwr mwk mlf men), (rf_RW ct 0 mw 958 f), (mu, .inl (ct 1, 42, .inr (.inl su)))]) (n := 3) [1, 2, 0] hP hD rfl rfl (by decide +kernel) ty_mva
        refine ty_Kv hP hD hS hA (va_runV (As := [.int p1, .int p2]) (rest := []) ⟨hx, hb, hml, hown, hts⟩ (m_X11_startsOn l D ct S ws_17 ph xx mo mw ma mf m0 m1 mu mv u0 u1 iz mb (0 : Int32) mn mpt mbg mwr mwk mlf men f G (-1) su p1 p2 _ hT hph hy1 hy11 hR hz_6.1.1 (Or.inl rfl) hz_6.1.2) (cm_V 2 hts kc_X11_startsOn ki_RX11 kl_RX11_288 kv_X11_startsOn kx_X11_startsOn kd_X11_startsOn ⟨Nat.le_of_ble_eq_true rfl, Nat.le_of_ble_eq_true rfl⟩) (ty_preE (ci := 11) (q0 := 0) hP hK hD hS hA hX rfl rfl) rfl rfl hl.1 rfl (lv_room (Nat.le_of_ble_eq_true rfl)) dX11_start_35 ⟨Nat.le_of_ble_eq_true rfl, Nat.le_of_ble_eq_true rfl⟩) (fun u H locs hw_22 hP hD hS => ?_)
        obtain ⟨ws_23, f1_24, su1_25⟩ := u
        obtain ⟨hT, hp_26⟩ := hw_22
        have hp_26 : (q_X11_startsOn f su p1 p2 f1_24 su1_25) ∧ rf_d (f 8) f f1_24 ∧ rf_R G (-1) f1_24 := hp_26
        obtain ⟨hq_27, hp_28⟩ := hp_26
        obtain ⟨hd_29, hq_30⟩ := hp_28
        have hD_31 := rf_dt (rf_dr f) hd_29
        have hR_32 := hq_30
        obtain ⟨hP, hD⟩ := ty_shPD (w2 := ([(rf_MO mo mw ma mf m0 m1 mu mv u0 u1 iz (0) mb mn mpt mbg mwr mwk mlf men), (rf_RW ct 0 mw 958 f1_24), (mu, .inl (ct 1, 42, .inr (.inl su1_25)))] ++ ws_23)) hP hD rfl
        refine lv_iconst (v := 0) hx hb dX11_start_38 (by decide) ?_
        refine lv_istore_n (lv' := [(3, .int 0), (0, .ref mo), (1, .int p1), (2, .int p2)]) hx hb dX11_start_39 rfl hl (by decide) rfl (fun ls hl => ?_)
        refine lv_iconst (v := 0) hx hb dX11_start_40 (by decide) ?_
        refine lv_istore (lv' := [(4, .int 0), (3, .int 0), (0, .ref mo), (1, .int p1), (2, .int p2)]) hx hb dX11_start_41 hl (by decide) rfl (fun ls hl => ?_)
        refine ty_loop (I := fun μ H locs ls => ∃ (ws : va_W) (y_34 : Int32) (y_35 : Int32), μ = (2147483648 - y_35.toInt).toNat ∧ ty_V ct S ph ws ∧ va_P D vwCl ([(rf_MO mo mw ma mf m0 m1 mu mv u0 u1 iz (0) mb mn mpt mbg mwr mwk mlf men), (rf_RW ct 0 mw 958 f1_24), (mu, .inl (ct 1, 42, .inr (.inl su1_25)))] ++ ws) H ∧ va_D A ([(rf_MO mo mw ma mf m0 m1 mu mv u0 u1 iz (0) mb mn mpt mbg mwr mwk mlf men), (rf_RW ct 0 mw 958 f1_24), (mu, .inl (ct 1, 42, .inr (.inl su1_25)))] ++ ws) ∧ va_S A s.heap H locs ∧ lv_has ls 5 [(0, .ref mo), (1, .int p1), (2, .int p2), (3, .int y_34), (4, .int y_35)] ∧ (0 ≤ y_35.toInt ∧ y_35.toInt ≤ (G 9).toInt) ∧ y_34 = q_rn f1_24 y_35.toInt.toNat) ⟨_, ws_23, (0 : Int32), (0 : Int32), rfl, hT, hP, hD, hS, (lv_sub hl [2, 3, 4, 1, 0] rfl), ⟨⟨by decide, (by have := hR.1.2.2.1.1; have z : (0 : Int32).toInt = 0 := (by decide); omega)⟩, rfl⟩⟩ (fun μ H locs ls hI ih_43 => ?_)
        obtain ⟨ws, y_34, y_35, rfl, hT, hP, hD, hS, hl, hex_43⟩ := hI
        refine lv_iload hx hb dX11_start_43 (lv_at hl 4 rfl) ?_
        refine lv_aload_n hx hb dX11_start_45 rfl (lv_at hl 0 rfl) ?_
        refine va_get (v := .ref mw) (D := D) (ci := 11) (C := RX11) (T := TX11) (N := 19) hx hb hts in_X11 hown hK hP 0 rfl rfl 0 (by decide) (hts _ kl_RX11_9) (fun _ h9 => h9) rfl dX11_start_46 ?_
        refine lv_bipush (v := 9) hx hb dX11_start_49 (by decide) ?_
        refine va_iald hx hb hK hP 1 0 rfl rfl (cm_vin (by decide)) dX11_start_51 ?_
        refine cm_cst (y := (f1_24 9)) (by first | rfl | decide +kernel) ?_
        refine lv_icmp_ge (tgt := 79) hx hb dX11_start_52 (by decide) (fun hc_36 => ?_) (fun hc_36 => ?_)
        · refine lv_iload_n hx hb dX11_start_79 rfl (lv_at hl 3 rfl) ?_
          exact W.iret (v := y_34) hx hb hr (fun t ht hW => ⟨⟨y_34, (ws, (0 : Int32), f1_24, su1_25), rfl, ⟨hT, ⟨⟨th1_4, trivial, (Or.inl ⟨hz_6, (Or.inl ⟨hz_13, (Or.inr ⟨hz_20, ⟨f1_24, su1_25, hq_27, ⟨y_34, y_35, hex_43, ⟨hc_36, ⟨rfl, rfl, rfl, rfl⟩⟩⟩⟩⟩)⟩)⟩)⟩, ⟨hD_31, hR_32⟩⟩⟩, by rw [ht]; exact hP, by rw [hAe]; exact hD⟩, hS.F ht⟩) hS.2.2 dX11_start_80
        · refine lv_iload_n hx hb dX11_start_55 rfl (lv_at hl 3 rfl) ?_
          refine lv_aload_n hx hb dX11_start_56 rfl (lv_at hl 0 rfl) ?_
          refine lv_iload hx hb dX11_start_57 (lv_at hl 4 rfl) ?_
          refine lv_iconst (v := 1) hx hb dX11_start_59 (by decide) ?_
          obtain ⟨hP, hD⟩ := ty_opPD (E1 := [(mu, .inl (ct 1, 42, .inr (.inl su1_25)))]) (E2 := [(rf_MO mo mw ma mf m0 m1 mu mv u0 u1 iz (0) mb mn mpt mbg mwr mwk mlf men), (rf_RW ct 0 mw 958 f1_24)]) (n := 3) [2, 0, 1] hP hD rfl rfl (by decide +kernel) ty_mva
          refine ty_Ki hP hD hS hA (va_runV (As := [.int y_35, .int 1]) (rest := [.int y_34]) ⟨hx, hb, hml, hown, hts⟩ (m_X11_isIn l D ct S ws ph xx mo mw ma mf m0 m1 mu mv u0 u1 iz mb (0 : Int32) mn mpt mbg mwr mwk mlf men f1_24 G (-1) y_35 (1 : Int32) _ hT hph hy1 hR_32 ⟨hex_43.1.1, by rw [← hR_32.2.1.2.2.2.2.1]; exact rf_ylt rfl hc_36⟩) (cm_V 2 hts kc_X11_isIn ki_RX11 kl_RX11_350 kv_X11_isIn kx_X11_isIn kd_X11_isIn ⟨Nat.le_of_ble_eq_true rfl, Nat.le_of_ble_eq_true rfl⟩) (ty_preE (ci := 11) (q0 := 1) hP hK hD hS hA hX rfl rfl) rfl rfl hl.1 rfl (lv_room (Nat.le_of_ble_eq_true rfl)) dX11_start_60 ⟨Nat.le_of_ble_eq_true rfl, Nat.le_of_ble_eq_true rfl⟩) (fun r_37 u H locs hw_38 hP hD hS => ?_)
          obtain ⟨ws_39, rfl⟩ : ∃ z, z = u := ⟨_, rfl⟩
          obtain ⟨hT, hp_40⟩ := hw_38
          have hp_40 : ((r_37 = 0 ∧ ¬ rf_of f1_24 y_35 0 = (1 : Int32)) ∨ (r_37 = 1 ∧ rf_of f1_24 y_35 0 = (1 : Int32))) := hp_40
          obtain ⟨hP, hD⟩ := ty_shPD (w2 := ([(mu, .inl (ct 1, 42, .inr (.inl su1_25))), (rf_MO mo mw ma mf m0 m1 mu mv u0 u1 iz (0) mb mn mpt mbg mwr mwk mlf men), (rf_RW ct 0 mw 958 f1_24)] ++ ws_39)) hP hD rfl
          rcases hp_40 with ⟨rfl, hz_41⟩ | ⟨rfl, hz_42⟩
          · refine lv_if_eq (tgt := 70) hx hb dX11_start_63 (by decide) (fun _ => ?_) (fun hc => absurd (by decide) hc)
            refine lv_iconst (v := 0) hx hb dX11_start_70 (by decide) ?_
            refine lv_iadd hx hb dX11_start_71 ?_
            refine lv_istore_n (lv' := [(3, .int (y_34 + 0)), (0, .ref mo), (1, .int p1), (2, .int p2), (4, .int y_35)]) hx hb dX11_start_72 rfl hl (by decide) rfl (fun ls hl => ?_)
            refine lv_iinc (v := (y_35 + Int32.ofInt 1)) (lv' := [(4, .int (y_35 + Int32.ofInt 1)), (3, .int (y_34 + 0)), (0, .ref mo), (1, .int p1), (2, .int p2)]) hx hb dX11_start_73 hl (k := 4) rfl rfl (by decide) rfl (fun ls hl => ?_)
            refine lv_goto (tgt := 43) hx hb dX11_start_76 (by decide) ?_
            obtain ⟨hP, hD⟩ := ty_ordPD (E2 := [(rf_MO mo mw ma mf m0 m1 mu mv u0 u1 iz (0) mb mn mpt mbg mwr mwk mlf men), (rf_RW ct 0 mw 958 f1_24), (mu, .inl (ct 1, 42, .inr (.inl su1_25)))]) (n := 3) [1, 2, 0] hP hD rfl rfl (by decide +kernel)
            exact ih_43 _ _ _ _ (ty_inc (cm_lt hc_36)) ⟨ws_39, (y_34 + 0), (y_35 + Int32.ofInt 1), rfl, hT, hP, hD, hS, (lv_sub hl [2, 3, 4, 1, 0] rfl), ⟨⟨ty_nn hex_43.1.1 (cm_lt hc_36), (by have := hex_43.1; have q9 : y_35.toInt < (G 9).toInt := (by rw [← hR_32.2.1.2.2.2.2.1]; exact rf_ylt rfl hc_36); have := hR.1.2.2.1; have e9 := rf_oi (n := y_35) (by omega); omega)⟩, q_rns hex_43.1.1 hc_36 hex_43.2 (by rw [if_neg hz_41])⟩⟩
          · refine lv_if_eq (tgt := 70) hx hb dX11_start_63 (by decide) (fun hc => absurd hc (by decide)) (fun _ => ?_)
            refine lv_iconst (v := 1) hx hb dX11_start_66 (by decide) ?_
            refine lv_goto (tgt := 71) hx hb dX11_start_67 (by decide) ?_
            refine lv_iadd hx hb dX11_start_71 ?_
            refine lv_istore_n (lv' := [(3, .int (y_34 + 1)), (0, .ref mo), (1, .int p1), (2, .int p2), (4, .int y_35)]) hx hb dX11_start_72 rfl hl (by decide) rfl (fun ls hl => ?_)
            refine lv_iinc (v := (y_35 + Int32.ofInt 1)) (lv' := [(4, .int (y_35 + Int32.ofInt 1)), (3, .int (y_34 + 1)), (0, .ref mo), (1, .int p1), (2, .int p2)]) hx hb dX11_start_73 hl (k := 4) rfl rfl (by decide) rfl (fun ls hl => ?_)
            refine lv_goto (tgt := 43) hx hb dX11_start_76 (by decide) ?_
            obtain ⟨hP, hD⟩ := ty_ordPD (E2 := [(rf_MO mo mw ma mf m0 m1 mu mv u0 u1 iz (0) mb mn mpt mbg mwr mwk mlf men), (rf_RW ct 0 mw 958 f1_24), (mu, .inl (ct 1, 42, .inr (.inl su1_25)))]) (n := 3) [1, 2, 0] hP hD rfl rfl (by decide +kernel)
            exact ih_43 _ _ _ _ (ty_inc (cm_lt hc_36)) ⟨ws_39, (y_34 + 1), (y_35 + Int32.ofInt 1), rfl, hT, hP, hD, hS, (lv_sub hl [2, 3, 4, 1, 0] rfl), ⟨⟨ty_nn hex_43.1.1 (cm_lt hc_36), (by have := hex_43.1; have q9 : y_35.toInt < (G 9).toInt := (by rw [← hR_32.2.1.2.2.2.2.1]; exact rf_ylt rfl hc_36); have := hR.1.2.2.1; have e9 := rf_oi (n := y_35) (by omega); omega)⟩, q_rns hex_43.1.1 hc_36 hex_43.2 (by rw [if_pos hz_42])⟩⟩
    · refine lv_if_ne (tgt := 32) hx hb dX11_start_17 (by decide) (fun _ => ?_) (fun hc => absurd hc (by decide))
      refine lv_aload_n hx hb dX11_start_32 rfl (lv_at hl 0 rfl) ?_
      refine lv_iload_n hx hb dX11_start_33 rfl (lv_at hl 1 rfl) ?_
      refine lv_iload_n hx hb dX11_start_34 rfl (lv_at hl 2 rfl) ?_
      obtain ⟨hP, hD⟩ := ty_opPD (E1 := []) (E2 := [(rf_MO mo mw ma mf m0 m1 mu mv u0 u1 iz (0) mb mn mpt mbg mwr mwk mlf men), (rf_RW ct 0 mw 958 f), (mu, .inl (ct 1, 42, .inr (.inl su)))]) (n := 3) [1, 2, 0] hP hD rfl rfl (by decide +kernel) ty_mva
      refine ty_Kv hP hD hS hA (va_runV (As := [.int p1, .int p2]) (rest := []) ⟨hx, hb, hml, hown, hts⟩ (m_X11_startsOn l D ct S ws_11 ph xx mo mw ma mf m0 m1 mu mv u0 u1 iz mb (0 : Int32) mn mpt mbg mwr mwk mlf men f G (-1) su p1 p2 _ hT hph hy1 hy11 hR hz_6.1.1 (Or.inl rfl) hz_6.1.2) (cm_V 2 hts kc_X11_startsOn ki_RX11 kl_RX11_288 kv_X11_startsOn kx_X11_startsOn kd_X11_startsOn ⟨Nat.le_of_ble_eq_true rfl, Nat.le_of_ble_eq_true rfl⟩) (ty_preE (ci := 11) (q0 := 0) hP hK hD hS hA hX rfl rfl) rfl rfl hl.1 rfl (lv_room (Nat.le_of_ble_eq_true rfl)) dX11_start_35 ⟨Nat.le_of_ble_eq_true rfl, Nat.le_of_ble_eq_true rfl⟩) (fun u H locs hw_44 hP hD hS => ?_)
      obtain ⟨ws_45, f1_46, su1_47⟩ := u
      obtain ⟨hT, hp_48⟩ := hw_44
      have hp_48 : (q_X11_startsOn f su p1 p2 f1_46 su1_47) ∧ rf_d (f 8) f f1_46 ∧ rf_R G (-1) f1_46 := hp_48
      obtain ⟨hq_49, hp_50⟩ := hp_48
      obtain ⟨hd_51, hq_52⟩ := hp_50
      have hD_53 := rf_dt (rf_dr f) hd_51
      have hR_54 := hq_52
      obtain ⟨hP, hD⟩ := ty_shPD (w2 := ([(rf_MO mo mw ma mf m0 m1 mu mv u0 u1 iz (0) mb mn mpt mbg mwr mwk mlf men), (rf_RW ct 0 mw 958 f1_46), (mu, .inl (ct 1, 42, .inr (.inl su1_47)))] ++ ws_45)) hP hD rfl
      refine lv_iconst (v := 0) hx hb dX11_start_38 (by decide) ?_
      refine lv_istore_n (lv' := [(3, .int 0), (0, .ref mo), (1, .int p1), (2, .int p2)]) hx hb dX11_start_39 rfl hl (by decide) rfl (fun ls hl => ?_)
      refine lv_iconst (v := 0) hx hb dX11_start_40 (by decide) ?_
      refine lv_istore (lv' := [(4, .int 0), (3, .int 0), (0, .ref mo), (1, .int p1), (2, .int p2)]) hx hb dX11_start_41 hl (by decide) rfl (fun ls hl => ?_)
      refine ty_loop (I := fun μ H locs ls => ∃ (ws : va_W) (y_56 : Int32) (y_57 : Int32), μ = (2147483648 - y_57.toInt).toNat ∧ ty_V ct S ph ws ∧ va_P D vwCl ([(rf_MO mo mw ma mf m0 m1 mu mv u0 u1 iz (0) mb mn mpt mbg mwr mwk mlf men), (rf_RW ct 0 mw 958 f1_46), (mu, .inl (ct 1, 42, .inr (.inl su1_47)))] ++ ws) H ∧ va_D A ([(rf_MO mo mw ma mf m0 m1 mu mv u0 u1 iz (0) mb mn mpt mbg mwr mwk mlf men), (rf_RW ct 0 mw 958 f1_46), (mu, .inl (ct 1, 42, .inr (.inl su1_47)))] ++ ws) ∧ va_S A s.heap H locs ∧ lv_has ls 5 [(0, .ref mo), (1, .int p1), (2, .int p2), (3, .int y_56), (4, .int y_57)] ∧ (0 ≤ y_57.toInt ∧ y_57.toInt ≤ (G 9).toInt) ∧ y_56 = q_rn f1_46 y_57.toInt.toNat) ⟨_, ws_45, (0 : Int32), (0 : Int32), rfl, hT, hP, hD, hS, (lv_sub hl [2, 3, 4, 1, 0] rfl), ⟨⟨by decide, (by have := hR.1.2.2.1.1; have z : (0 : Int32).toInt = 0 := (by decide); omega)⟩, rfl⟩⟩ (fun μ H locs ls hI ih_43 => ?_)
      obtain ⟨ws, y_56, y_57, rfl, hT, hP, hD, hS, hl, hex_43⟩ := hI
      refine lv_iload hx hb dX11_start_43 (lv_at hl 4 rfl) ?_
      refine lv_aload_n hx hb dX11_start_45 rfl (lv_at hl 0 rfl) ?_
      refine va_get (v := .ref mw) (D := D) (ci := 11) (C := RX11) (T := TX11) (N := 19) hx hb hts in_X11 hown hK hP 0 rfl rfl 0 (by decide) (hts _ kl_RX11_9) (fun _ h9 => h9) rfl dX11_start_46 ?_
      refine lv_bipush (v := 9) hx hb dX11_start_49 (by decide) ?_
      refine va_iald hx hb hK hP 1 0 rfl rfl (cm_vin (by decide)) dX11_start_51 ?_
      refine cm_cst (y := (f1_46 9)) (by first | rfl | decide +kernel) ?_
      refine lv_icmp_ge (tgt := 79) hx hb dX11_start_52 (by decide) (fun hc_58 => ?_) (fun hc_58 => ?_)
      · refine lv_iload_n hx hb dX11_start_79 rfl (lv_at hl 3 rfl) ?_
        exact W.iret (v := y_56) hx hb hr (fun t ht hW => ⟨⟨y_56, (ws, (0 : Int32), f1_46, su1_47), rfl, ⟨hT, ⟨⟨th1_4, trivial, (Or.inl ⟨hz_6, (Or.inr ⟨hz_14, ⟨f1_46, su1_47, hq_49, ⟨y_56, y_57, hex_43, ⟨hc_58, ⟨rfl, rfl, rfl, rfl⟩⟩⟩⟩⟩)⟩)⟩, ⟨hD_53, hR_54⟩⟩⟩, by rw [ht]; exact hP, by rw [hAe]; exact hD⟩, hS.F ht⟩) hS.2.2 dX11_start_80
      · refine lv_iload_n hx hb dX11_start_55 rfl (lv_at hl 3 rfl) ?_
        refine lv_aload_n hx hb dX11_start_56 rfl (lv_at hl 0 rfl) ?_
        refine lv_iload hx hb dX11_start_57 (lv_at hl 4 rfl) ?_
        refine lv_iconst (v := 1) hx hb dX11_start_59 (by decide) ?_
        obtain ⟨hP, hD⟩ := ty_opPD (E1 := [(mu, .inl (ct 1, 42, .inr (.inl su1_47)))]) (E2 := [(rf_MO mo mw ma mf m0 m1 mu mv u0 u1 iz (0) mb mn mpt mbg mwr mwk mlf men), (rf_RW ct 0 mw 958 f1_46)]) (n := 3) [2, 0, 1] hP hD rfl rfl (by decide +kernel) ty_mva
        refine ty_Ki hP hD hS hA (va_runV (As := [.int y_57, .int 1]) (rest := [.int y_56]) ⟨hx, hb, hml, hown, hts⟩ (m_X11_isIn l D ct S ws ph xx mo mw ma mf m0 m1 mu mv u0 u1 iz mb (0 : Int32) mn mpt mbg mwr mwk mlf men f1_46 G (-1) y_57 (1 : Int32) _ hT hph hy1 hR_54 ⟨hex_43.1.1, by rw [← hR_54.2.1.2.2.2.2.1]; exact rf_ylt rfl hc_58⟩) (cm_V 2 hts kc_X11_isIn ki_RX11 kl_RX11_350 kv_X11_isIn kx_X11_isIn kd_X11_isIn ⟨Nat.le_of_ble_eq_true rfl, Nat.le_of_ble_eq_true rfl⟩) (ty_preE (ci := 11) (q0 := 1) hP hK hD hS hA hX rfl rfl) rfl rfl hl.1 rfl (lv_room (Nat.le_of_ble_eq_true rfl)) dX11_start_60 ⟨Nat.le_of_ble_eq_true rfl, Nat.le_of_ble_eq_true rfl⟩) (fun r_59 u H locs hw_60 hP hD hS => ?_)
        obtain ⟨ws_61, rfl⟩ : ∃ z, z = u := ⟨_, rfl⟩
        obtain ⟨hT, hp_62⟩ := hw_60
        have hp_62 : ((r_59 = 0 ∧ ¬ rf_of f1_46 y_57 0 = (1 : Int32)) ∨ (r_59 = 1 ∧ rf_of f1_46 y_57 0 = (1 : Int32))) := hp_62
        obtain ⟨hP, hD⟩ := ty_shPD (w2 := ([(mu, .inl (ct 1, 42, .inr (.inl su1_47))), (rf_MO mo mw ma mf m0 m1 mu mv u0 u1 iz (0) mb mn mpt mbg mwr mwk mlf men), (rf_RW ct 0 mw 958 f1_46)] ++ ws_61)) hP hD rfl
        rcases hp_62 with ⟨rfl, hz_63⟩ | ⟨rfl, hz_64⟩
        · refine lv_if_eq (tgt := 70) hx hb dX11_start_63 (by decide) (fun _ => ?_) (fun hc => absurd (by decide) hc)
          refine lv_iconst (v := 0) hx hb dX11_start_70 (by decide) ?_
          refine lv_iadd hx hb dX11_start_71 ?_
          refine lv_istore_n (lv' := [(3, .int (y_56 + 0)), (0, .ref mo), (1, .int p1), (2, .int p2), (4, .int y_57)]) hx hb dX11_start_72 rfl hl (by decide) rfl (fun ls hl => ?_)
          refine lv_iinc (v := (y_57 + Int32.ofInt 1)) (lv' := [(4, .int (y_57 + Int32.ofInt 1)), (3, .int (y_56 + 0)), (0, .ref mo), (1, .int p1), (2, .int p2)]) hx hb dX11_start_73 hl (k := 4) rfl rfl (by decide) rfl (fun ls hl => ?_)
          refine lv_goto (tgt := 43) hx hb dX11_start_76 (by decide) ?_
          obtain ⟨hP, hD⟩ := ty_ordPD (E2 := [(rf_MO mo mw ma mf m0 m1 mu mv u0 u1 iz (0) mb mn mpt mbg mwr mwk mlf men), (rf_RW ct 0 mw 958 f1_46), (mu, .inl (ct 1, 42, .inr (.inl su1_47)))]) (n := 3) [1, 2, 0] hP hD rfl rfl (by decide +kernel)
          exact ih_43 _ _ _ _ (ty_inc (cm_lt hc_58)) ⟨ws_61, (y_56 + 0), (y_57 + Int32.ofInt 1), rfl, hT, hP, hD, hS, (lv_sub hl [2, 3, 4, 1, 0] rfl), ⟨⟨ty_nn hex_43.1.1 (cm_lt hc_58), (by have := hex_43.1; have q9 : y_57.toInt < (G 9).toInt := (by rw [← hR_54.2.1.2.2.2.2.1]; exact rf_ylt rfl hc_58); have := hR.1.2.2.1; have e9 := rf_oi (n := y_57) (by omega); omega)⟩, q_rns hex_43.1.1 hc_58 hex_43.2 (by rw [if_neg hz_63])⟩⟩
        · refine lv_if_eq (tgt := 70) hx hb dX11_start_63 (by decide) (fun hc => absurd hc (by decide)) (fun _ => ?_)
          refine lv_iconst (v := 1) hx hb dX11_start_66 (by decide) ?_
          refine lv_goto (tgt := 71) hx hb dX11_start_67 (by decide) ?_
          refine lv_iadd hx hb dX11_start_71 ?_
          refine lv_istore_n (lv' := [(3, .int (y_56 + 1)), (0, .ref mo), (1, .int p1), (2, .int p2), (4, .int y_57)]) hx hb dX11_start_72 rfl hl (by decide) rfl (fun ls hl => ?_)
          refine lv_iinc (v := (y_57 + Int32.ofInt 1)) (lv' := [(4, .int (y_57 + Int32.ofInt 1)), (3, .int (y_56 + 1)), (0, .ref mo), (1, .int p1), (2, .int p2)]) hx hb dX11_start_73 hl (k := 4) rfl rfl (by decide) rfl (fun ls hl => ?_)
          refine lv_goto (tgt := 43) hx hb dX11_start_76 (by decide) ?_
          obtain ⟨hP, hD⟩ := ty_ordPD (E2 := [(rf_MO mo mw ma mf m0 m1 mu mv u0 u1 iz (0) mb mn mpt mbg mwr mwk mlf men), (rf_RW ct 0 mw 958 f1_46), (mu, .inl (ct 1, 42, .inr (.inl su1_47)))]) (n := 3) [1, 2, 0] hP hD rfl rfl (by decide +kernel)
          exact ih_43 _ _ _ _ (ty_inc (cm_lt hc_58)) ⟨ws_61, (y_56 + 1), (y_57 + Int32.ofInt 1), rfl, hT, hP, hD, hS, (lv_sub hl [2, 3, 4, 1, 0] rfl), ⟨⟨ty_nn hex_43.1.1 (cm_lt hc_58), (by have := hex_43.1; have q9 : y_57.toInt < (G 9).toInt := (by rw [← hR_54.2.1.2.2.2.2.1]; exact rf_ylt rfl hc_58); have := hR.1.2.2.1; have e9 := rf_oi (n := y_57) (by omega); omega)⟩, q_rns hex_43.1.1 hc_58 hex_43.2 (by rw [if_pos hz_64])⟩⟩
  · have he_65 := hz_7.2
    have hP : va_P D vwCl ([(mu, .inl (ct 1, 42, .inr (.inl su))), (rf_MO mo mw ma mf m0 m1 mu mv u0 u1 iz (1) mb mn mpt mbg mwr mwk mlf men), (rf_RW ct 0 mw 958 f)] ++ ws_3) H := by rw [he_65] at hP; exact hP
    have hD : va_D A ([(mu, .inl (ct 1, 42, .inr (.inl su))), (rf_MO mo mw ma mf m0 m1 mu mv u0 u1 iz (1) mb mn mpt mbg mwr mwk mlf men), (rf_RW ct 0 mw 958 f)] ++ ws_3) := by rw [he_65] at hD; exact hD
    refine lv_if_eq (tgt := 11) hx hb dX11_start_6 (by decide) (fun hc => absurd hc (by decide)) (fun _ => ?_)
    refine lv_iconst (v := 0) hx hb dX11_start_9 (by decide) ?_
    obtain ⟨hP, hD⟩ := ty_ordPD (E2 := [(rf_MO mo mw ma mf m0 m1 mu mv u0 u1 iz (1) mb mn mpt mbg mwr mwk mlf men), (rf_RW ct 0 mw 958 f), (mu, .inl (ct 1, 42, .inr (.inl su)))]) (n := 3) [1, 2, 0] hP hD rfl rfl (by decide +kernel)
    exact W.iret (v := 0) hx hb hr (fun t ht hW => ⟨⟨0, (ws_3, (1 : Int32), f, su), rfl, ⟨hT, ⟨⟨th1_4, trivial, (Or.inr ⟨hz_7, ⟨rfl, rfl, rfl, rfl⟩⟩)⟩, ⟨(rf_dr f), hR⟩⟩⟩, by rw [ht]; exact hP, by rw [hAe]; exact hD⟩, hS.F ht⟩) hS.2.2 dX11_start_10
