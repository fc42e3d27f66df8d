theorem dX11_noProgram_0 : decode cX11_noProgram 0 = .ok (.aload_n 0, 1) := by decide +kernel
theorem dX11_noProgram_1 : decode cX11_noProgram 1 = .ok (.iload_n 1, 1) := by decide +kernel
theorem dX11_noProgram_2 : decode cX11_noProgram 2 = .ok (.invokevirtual 344, 3) := by decide +kernel
theorem dX11_noProgram_5 : decode cX11_noProgram 5 = .ok (.ifCond .ne 35, 3) := by decide +kernel
theorem dX11_noProgram_8 : decode cX11_noProgram 8 = .ok (.aload_n 0, 1) := by decide +kernel
theorem dX11_noProgram_9 : decode cX11_noProgram 9 = .ok (.iload_n 2, 1) := by decide +kernel
theorem dX11_noProgram_10 : decode cX11_noProgram 10 = .ok (.i2l, 1) := by decide +kernel
theorem dX11_noProgram_11 : decode cX11_noProgram 11 = .ok (.lconst 0, 1) := by decide +kernel
theorem dX11_noProgram_12 : decode cX11_noProgram 12 = .ok (.aload_n 0, 1) := by decide +kernel
theorem dX11_noProgram_13 : decode cX11_noProgram 13 = .ok (.getfield 9, 3) := by decide +kernel
theorem dX11_noProgram_16 : decode cX11_noProgram 16 = .ok (.bipush 10, 2) := by decide +kernel
theorem dX11_noProgram_18 : decode cX11_noProgram 18 = .ok (.iaload, 1) := by decide +kernel
theorem dX11_noProgram_19 : decode cX11_noProgram 19 = .ok (.iconst 1, 1) := by decide +kernel
theorem dX11_noProgram_20 : decode cX11_noProgram 20 = .ok (.isub, 1) := by decide +kernel
theorem dX11_noProgram_21 : decode cX11_noProgram 21 = .ok (.i2l, 1) := by decide +kernel
theorem dX11_noProgram_22 : decode cX11_noProgram 22 = .ok (.invokestatic 70, 3) := by decide +kernel
theorem dX11_noProgram_25 : decode cX11_noProgram 25 = .ok (.ifCond .ne 7, 3) := by decide +kernel
theorem dX11_noProgram_28 : decode cX11_noProgram 28 = .ok (.iconst 1, 1) := by decide +kernel
theorem dX11_noProgram_29 : decode cX11_noProgram 29 = .ok (.goto 4, 3) := by decide +kernel
theorem dX11_noProgram_32 : decode cX11_noProgram 32 = .ok (.iconst 0, 1) := by decide +kernel
theorem dX11_noProgram_33 : decode cX11_noProgram 33 = .ok (.iconst 1, 1) := by decide +kernel
theorem dX11_noProgram_34 : decode cX11_noProgram 34 = .ok (.invokevirtual 328, 3) := by decide +kernel
theorem dX11_noProgram_37 : decode cX11_noProgram 37 = .ok (.ifCond .eq 7, 3) := by decide +kernel
theorem dX11_noProgram_40 : decode cX11_noProgram 40 = .ok (.iconst 1, 1) := by decide +kernel
theorem dX11_noProgram_41 : decode cX11_noProgram 41 = .ok (.goto 4, 3) := by decide +kernel
theorem dX11_noProgram_44 : decode cX11_noProgram 44 = .ok (.iconst 0, 1) := by decide +kernel
theorem dX11_noProgram_45 : decode cX11_noProgram 45 = .ok (.ireturn, 1) := by decide +kernel
set_option maxRecDepth 100000 in
set_option maxHeartbeats 4000000 in
theorem m_X11_noProgram (l : Launch) (D : va_G) (ct : Nat → ClassId) (S : ty_S) (ws : va_W) (ph : va_W → Prop) (xx : Nat → Nat → Nat → Prop) (mo : Nat) (mw : Nat) (ma : Nat) (mf : Nat) (m0 : Nat) (m1 : Nat) (mu : Nat) (mv : Nat) (u0 : Nat) (u1 : Nat) (iz : Nat) (mb : Nat) (th : Int32) (mn : Int32) (mpt : Int32) (mbg : Int32) (mwr : Int32) (mwk : Int32) (mlf : Int32) (men : Int32) (f : Nat → Int32) (G : Nat → Int32) (cx : Int) (p1 : Int32) (p2 : Int32) (sz : Nat) (hT : ty_V ct S ph ws) (h_mu : S mu = some (.inr (1, 42))) (h_mv : S mv = some (.inr (1, 42))) (h_u0 : S u0 = some (.inr (1, 42))) (h_u1 : S u1 = some (.inr (1, 42))) (hph : ty_C ph xx) (hy1 : ty_y1 xx) (hR : rf_R G cx f) : Met l yX11_noProgram (ws_ yX11_noProgram cX11_noProgram 3 (some .boolean)) ({ frames := 2, cells := 0, slots := 0, locals := 46 } : Room) (va_Pc [.ref mo, .int p1, .int p2] (cmP D ct sz ([(rf_MO mo mw ma mf m0 m1 mu mv u0 u1 iz th mb mn mpt mbg mwr mwk mlf men), (rf_RW ct 0 mw 958 f)] ++ ws))) (va_Qi (fun (r : Int32) (u : va_W × Int32) => match u with | (u9, th1) => ty_V ct S ph u9 ∧ ((r = 0 ∧ (0 ≤ p1.toInt ∧ p1.toInt < (G 9).toInt) ∧ 0 ≤ p2.toInt ∧ p2.toInt < (G 10).toInt) ∨ r = 1)) (cmB D ([(rf_MO mo mw ma mf m0 m1 mu mv u0 u1 iz th mb mn mpt mbg mwr mwk mlf men), (rf_RW ct 0 mw 958 f)] ++ ws) sz (fun (u : va_W × Int32) => match u with | (u9, th1) => ([(rf_MO mo mw ma mf m0 m1 mu mv u0 u1 iz th1 mb mn mpt mbg mwr mwk mlf men), (rf_RW ct 0 mw 958 f)] ++ u9))) (va_A ([(rf_MO mo mw ma mf m0 m1 mu mv u0 u1 iz th mb mn mpt mbg mwr mwk mlf men), (rf_RW ct 0 mw 958 f)] ++ ws) sz)) 0 0 (va_A ([(rf_MO mo mw ma mf m0 m1 mu mv u0 u1 iz th mb mn mpt mbg mwr mwk mlf men), (rf_RW ct 0 mw 958 f)] ++ ws) sz) := by
  refine Met.ofW (cc := cX11_noProgram) (maxL := 3) (ret := (some .boolean)) (by decide) rfl ?_
  intro p e s m args below meth c s₁ B hml hv
  obtain ⟨rfl, hsz, hP, hK, hD0, hX⟩ := hv
  have hx := B.exec
  have hb := B.bytes
  have hr := B.returns
  have hts := ws_all (atoms_spec (ws := ws_ yX11_noProgram cX11_noProgram 3 (some .boolean)) B.pre)
  have hown : s.vm.findClass RX11 = some m.cls := findClass_of_methodNamed B.named
  have hlocks := B.notSynchronized
  subst hsz
  have hD := hD0.self (sz := s.heap.size)
  generalize hAe : va_A ([(rf_MO mo mw ma mf m0 m1 mu mv u0 u1 iz th mb mn mpt mbg mwr mwk mlf men), (rf_RW ct 0 mw 958 f)] ++ ws) s.heap.size = A at hD hX ⊢
  have hA : ∀ q : Nat, s.heap.size ≤ q → A q := fun q h => by rw [← hAe]; exact Or.inr h
  have hS : va_S A s.heap s.heap [] := va_S.rf
  have hl := lv_entry ([.ref mo, .int p1, .int p2]) (n := 3) (Nat.le_of_ble_eq_true rfl)
  rw [lg_entry_eq]
  generalize (lg_sl ([.ref mo, .int p1, .int p2]) ++ List.replicate (3 - (lg_sl ([.ref mo, .int p1, .int p2])).length) Slot.unset).toArray = ls at hl ⊢
  have hl : lv_has ls 3 [(0, .ref mo), (1, .int p1), (2, .int p2)] := hl
  refine lv_aload_n hx hb dX11_noProgram_0 rfl (lv_at hl 0 rfl) ?_
  refine lv_iload_n hx hb dX11_noProgram_1 rfl (lv_at hl 1 rfl) ?_
  refine ty_ki (wr := []) (wc := ([(rf_MO mo mw ma mf m0 m1 mu mv u0 u1 iz th mb mn mpt mbg mwr mwk mlf men), (rf_RW ct 0 mw 958 f)] ++ ws)) (va_runV (As := [.int p1]) (rest := []) ⟨hx, hb, hml, hown, hts⟩ (m_X11_noChannel l D ct S ws ph xx mo mw ma mf m0 m1 mu mv u0 u1 iz mb th mn mpt mbg mwr mwk mlf men f G cx p1 _ hT h_mu h_mv h_u0 h_u1 hph hy1 hR) (cm_V 1 hts kc_X11_noChannel ki_RX11 kl_RX11_344 kv_X11_noChannel kx_X11_noChannel kd_X11_noChannel ⟨Nat.le_of_ble_eq_true rfl, Nat.le_of_ble_eq_true rfl⟩) (ty_preE (wr := []) (wc := ([(rf_MO mo mw ma mf m0 m1 mu mv u0 u1 iz th mb mn mpt mbg mwr mwk mlf men), (rf_RW ct 0 mw 958 f)] ++ ws)) (ci := 11) (q0 := 0) hP hK hD hS hA hX rfl rfl) rfl rfl hl.1 rfl (lv_room (Nat.le_of_ble_eq_true rfl)) dX11_noProgram_2 ⟨Nat.le_of_ble_eq_true rfl, Nat.le_of_ble_eq_true rfl⟩) hP hD hS hA (fun r_1 u H locs hw_2 hP hD hS => ?_)
  obtain ⟨ws_3, th1_4⟩ := u
  obtain ⟨hT, hp_5⟩ := hw_2
  have hp_5 : ((r_1 = 0 ∧ 0 ≤ p1.toInt ∧ p1.toInt < (G 9).toInt) ∨ r_1 = 1) := hp_5
  have hP : va_P D vwCl ([(rf_MO mo mw ma mf m0 m1 mu mv u0 u1 iz th1_4 mb mn mpt mbg mwr mwk mlf men), (rf_RW ct 0 mw 958 f)] ++ ws_3) H := hP
  have hD : va_D A ([(rf_MO mo mw ma mf m0 m1 mu mv u0 u1 iz th1_4 mb mn mpt mbg mwr mwk mlf men), (rf_RW ct 0 mw 958 f)] ++ ws_3) := hD
  rcases hp_5 with ⟨rfl, hz_6⟩ | rfl
  · refine lv_if_ne (tgt := 40) hx hb dX11_noProgram_5 (by decide) (fun hc => absurd (by decide) hc) (fun _ => ?_)
    refine lv_aload_n hx hb dX11_noProgram_8 rfl (lv_at hl 0 rfl) ?_
    refine lv_iload_n hx hb dX11_noProgram_9 rfl (lv_at hl 2 rfl) ?_
    refine lv_i2l hx hb dX11_noProgram_10 rfl ?_
    refine lv_lconst (v := 0) hx hb dX11_noProgram_11 (by decide) ?_
    refine lv_aload_n hx hb dX11_noProgram_12 rfl (lv_at hl 0 rfl) ?_
    refine va_get (v := .ref mw) (D := D) (ci := 11) (C := RX11) (T := TX11) (N := 19) hx hb hts in_X11 hown hK hP 0 rfl rfl 0 (by decide) (hts _ kl_RX11_9) (fun _ h9 => h9) rfl dX11_noProgram_13 ?_
    refine lv_bipush (v := 10) hx hb dX11_noProgram_16 (by decide) ?_
    refine va_iald hx hb hK hP 1 0 rfl rfl (cm_vin (by decide)) dX11_noProgram_18 ?_
    refine cm_cst (y := (f 10)) (by first | rfl | decide +kernel) ?_
    refine lv_iconst (v := 1) hx hb dX11_noProgram_19 (by decide) ?_
    refine lv_isub hx hb dX11_noProgram_20 ?_
    refine lv_i2l hx hb dX11_noProgram_21 rfl ?_
    refine ty_ki (wr := [(rf_MO mo mw ma mf m0 m1 mu mv u0 u1 iz th1_4 mb mn mpt mbg mwr mwk mlf men), (rf_RW ct 0 mw 958 f)]) (wc := ([] ++ ws_3)) (va_runS (As := [.long p2.toInt64, .long 0, .long (((f 10) - 1).toInt64)]) (rest := [.ref mo]) ⟨hx, hb, hml, hown, hts⟩ (m_X11_in l D ct S ws_3 ph xx p2.toInt64 (0 : Int64) (((f 10) - 1).toInt64) _ hT hph hy1) (cm_S 3 hts kc_X11_in ki_RX11 kl_RX11_70 ks_X11_in kd_X11_in ⟨Nat.le_of_ble_eq_true rfl, Nat.le_of_ble_eq_true rfl⟩) (ty_preS (wr := [(rf_MO mo mw ma mf m0 m1 mu mv u0 u1 iz th1_4 mb mn mpt mbg mwr mwk mlf men), (rf_RW ct 0 mw 958 f)]) (wc := ([] ++ ws_3)) hP hK hD hS hA hX) rfl rfl hl.1 rfl (lv_room (Nat.le_of_ble_eq_true rfl)) dX11_noProgram_22 ⟨Nat.le_of_ble_eq_true rfl, Nat.le_of_ble_eq_true rfl⟩) hP hD hS hA (fun r_7 u H locs hw_8 hP hD hS => ?_)
    obtain ⟨ws_9, rfl⟩ : ∃ z, z = u := ⟨_, rfl⟩
    obtain ⟨hT, rfl⟩ := hw_8
    have hP : va_P D vwCl ([(rf_MO mo mw ma mf m0 m1 mu mv u0 u1 iz th1_4 mb mn mpt mbg mwr mwk mlf men), (rf_RW ct 0 mw 958 f)] ++ ws_9) H := hP
    have hD : va_D A ([(rf_MO mo mw ma mf m0 m1 mu mv u0 u1 iz th1_4 mb mn mpt mbg mwr mwk mlf men), (rf_RW ct 0 mw 958 f)] ++ ws_9) := hD
    refine lv_if_ne (tgt := 32) hx hb dX11_noProgram_25 (by decide) (fun hc_10 => ?_) (fun hc_10 => ?_)
    · refine lv_iconst (v := 0) hx hb dX11_noProgram_32 (by decide) ?_
      refine lv_iconst (v := 1) hx hb dX11_noProgram_33 (by decide) ?_
      have hP : va_P D vwCl ([(rf_RW ct 0 mw 958 f), (rf_MO mo mw ma mf m0 m1 mu mv u0 u1 iz th1_4 mb mn mpt mbg mwr mwk mlf men)] ++ ws_9) H := ty_permP hP (ty_ordp (E := [(rf_MO mo mw ma mf m0 m1 mu mv u0 u1 iz th1_4 mb mn mpt mbg mwr mwk mlf men), (rf_RW ct 0 mw 958 f)]) (E2 := [(rf_RW ct 0 mw 958 f), (rf_MO mo mw ma mf m0 m1 mu mv u0 u1 iz th1_4 mb mn mpt mbg mwr mwk mlf men)]) (n := 2) [1, 0] rfl rfl (by decide))
      have hD : va_D A ([(rf_RW ct 0 mw 958 f), (rf_MO mo mw ma mf m0 m1 mu mv u0 u1 iz th1_4 mb mn mpt mbg mwr mwk mlf men)] ++ ws_9) := ty_permD hD (ty_ordp (E := [(rf_MO mo mw ma mf m0 m1 mu mv u0 u1 iz th1_4 mb mn mpt mbg mwr mwk mlf men), (rf_RW ct 0 mw 958 f)]) (E2 := [(rf_RW ct 0 mw 958 f), (rf_MO mo mw ma mf m0 m1 mu mv u0 u1 iz th1_4 mb mn mpt mbg mwr mwk mlf men)]) (n := 2) [1, 0] rfl rfl (by decide))
      refine ty_ki (wr := [(rf_RW ct 0 mw 958 f)]) (wc := ([(rf_MO mo mw ma mf m0 m1 mu mv u0 u1 iz th1_4 mb mn mpt mbg mwr mwk mlf men)] ++ ws_9)) (va_runV (As := [.int 0, .int 1]) (rest := []) ⟨hx, hb, hml, hown, hts⟩ (m_X11_throwsIf l D ct S ws_9 ph xx mo mw ma mf m0 m1 mu mv u0 u1 iz mb th1_4 mn mpt mbg mwr mwk mlf men (0 : Int32) (1 : Int32) _ hT h_mu h_mv h_u0 h_u1 hph hy1 (by decide)) (cm_V 2 hts kc_X11_throwsIf ki_RX11 kl_RX11_328 kv_X11_throwsIf kx_X11_throwsIf kd_X11_throwsIf ⟨Nat.le_of_ble_eq_true rfl, Nat.le_of_ble_eq_true rfl⟩) (ty_preE (wr := [(rf_RW ct 0 mw 958 f)]) (wc := ([(rf_MO mo mw ma mf m0 m1 mu mv u0 u1 iz th1_4 mb mn mpt mbg mwr mwk mlf men)] ++ ws_9)) (ci := 11) (q0 := 1) hP hK hD hS hA hX rfl rfl) rfl rfl hl.1 rfl (lv_room (Nat.le_of_ble_eq_true rfl)) dX11_noProgram_34 ⟨Nat.le_of_ble_eq_true rfl, Nat.le_of_ble_eq_true rfl⟩) hP hD hS hA (fun r_11 u H locs hw_12 hP hD hS => ?_)
      obtain ⟨ws_13, th1_14⟩ := u
      obtain ⟨hT, hp_15⟩ := hw_12
      have hp_15 : ((r_11 = 0 ∧ (0 : Int32) = 0) ∨ r_11 = 1) := hp_15
      have hP : va_P D vwCl ([(rf_RW ct 0 mw 958 f), (rf_MO mo mw ma mf m0 m1 mu mv u0 u1 iz th1_14 mb mn mpt mbg mwr mwk mlf men)] ++ ws_13) H := hP
      have hD : va_D A ([(rf_RW ct 0 mw 958 f), (rf_MO mo mw ma mf m0 m1 mu mv u0 u1 iz th1_14 mb mn mpt mbg mwr mwk mlf men)] ++ ws_13) := hD
      rcases hp_15 with ⟨rfl, hz_16⟩ | rfl
      · refine lv_if_eq (tgt := 44) hx hb dX11_noProgram_37 (by decide) (fun _ => ?_) (fun hc => absurd (by decide) hc)
        refine lv_iconst (v := 0) hx hb dX11_noProgram_44 (by decide) ?_
        have hP : va_P D vwCl ([(rf_MO mo mw ma mf m0 m1 mu mv u0 u1 iz th1_14 mb mn mpt mbg mwr mwk mlf men), (rf_RW ct 0 mw 958 f)] ++ ws_13) H := ty_permP hP (ty_ordp (E := [(rf_RW ct 0 mw 958 f), (rf_MO mo mw ma mf m0 m1 mu mv u0 u1 iz th1_14 mb mn mpt mbg mwr mwk mlf men)]) (E2 := [(rf_MO mo mw ma mf m0 m1 mu mv u0 u1 iz th1_14 mb mn mpt mbg mwr mwk mlf men), (rf_RW ct 0 mw 958 f)]) (n := 2) [1, 0] rfl rfl (by decide))
        have hD : va_D A ([(rf_MO mo mw ma mf m0 m1 mu mv u0 u1 iz th1_14 mb mn mpt mbg mwr mwk mlf men), (rf_RW ct 0 mw 958 f)] ++ ws_13) := ty_permD hD (ty_ordp (E := [(rf_RW ct 0 mw 958 f), (rf_MO mo mw ma mf m0 m1 mu mv u0 u1 iz th1_14 mb mn mpt mbg mwr mwk mlf men)]) (E2 := [(rf_MO mo mw ma mf m0 m1 mu mv u0 u1 iz th1_14 mb mn mpt mbg mwr mwk mlf men), (rf_RW ct 0 mw 958 f)]) (n := 2) [1, 0] rfl rfl (by decide))
        exact W.zret (v := 0) hx hb hr (by decide) (fun t ht hW => ⟨⟨0, (ws_13, th1_14), rfl, ⟨hT, (Or.inl ⟨rfl, hz_6, rf_prog hR hc_10⟩)⟩, by rw [ht]; exact hP, by rw [hAe]; exact hD⟩, hS.F ht⟩) hS.2.2 dX11_noProgram_45
      · refine lv_if_eq (tgt := 44) hx hb dX11_noProgram_37 (by decide) (fun hc => absurd hc (by decide)) (fun _ => ?_)
        refine lv_iconst (v := 1) hx hb dX11_noProgram_40 (by decide) ?_
        refine lv_goto (tgt := 45) hx hb dX11_noProgram_41 (by decide) ?_
        have hP : va_P D vwCl ([(rf_MO mo mw ma mf m0 m1 mu mv u0 u1 iz th1_14 mb mn mpt mbg mwr mwk mlf men), (rf_RW ct 0 mw 958 f)] ++ ws_13) H := ty_permP hP (ty_ordp (E := [(rf_RW ct 0 mw 958 f), (rf_MO mo mw ma mf m0 m1 mu mv u0 u1 iz th1_14 mb mn mpt mbg mwr mwk mlf men)]) (E2 := [(rf_MO mo mw ma mf m0 m1 mu mv u0 u1 iz th1_14 mb mn mpt mbg mwr mwk mlf men), (rf_RW ct 0 mw 958 f)]) (n := 2) [1, 0] rfl rfl (by decide))
        have hD : va_D A ([(rf_MO mo mw ma mf m0 m1 mu mv u0 u1 iz th1_14 mb mn mpt mbg mwr mwk mlf men), (rf_RW ct 0 mw 958 f)] ++ ws_13) := ty_permD hD (ty_ordp (E := [(rf_RW ct 0 mw 958 f), (rf_MO mo mw ma mf m0 m1 mu mv u0 u1 iz th1_14 mb mn mpt mbg mwr mwk mlf men)]) (E2 := [(rf_MO mo mw ma mf m0 m1 mu mv u0 u1 iz th1_14 mb mn mpt mbg mwr mwk mlf men), (rf_RW ct 0 mw 958 f)]) (n := 2) [1, 0] rfl rfl (by decide))
        exact W.zret (v := 1) hx hb hr (by decide) (fun t ht hW => ⟨⟨1, (ws_13, th1_14), rfl, ⟨hT, (Or.inr rfl)⟩, by rw [ht]; exact hP, by rw [hAe]; exact hD⟩, hS.F ht⟩) hS.2.2 dX11_noProgram_45
    · refine lv_iconst (v := 1) hx hb dX11_noProgram_28 (by decide) ?_
      refine lv_goto (tgt := 33) hx hb dX11_noProgram_29 (by decide) ?_
      refine lv_iconst (v := 1) hx hb dX11_noProgram_33 (by decide) ?_
      have hP : va_P D vwCl ([(rf_RW ct 0 mw 958 f), (rf_MO mo mw ma mf m0 m1 mu mv u0 u1 iz th1_4 mb mn mpt mbg mwr mwk mlf men)] ++ ws_9) H := ty_permP hP (ty_ordp (E := [(rf_MO mo mw ma mf m0 m1 mu mv u0 u1 iz th1_4 mb mn mpt mbg mwr mwk mlf men), (rf_RW ct 0 mw 958 f)]) (E2 := [(rf_RW ct 0 mw 958 f), (rf_MO mo mw ma mf m0 m1 mu mv u0 u1 iz th1_4 mb mn mpt mbg mwr mwk mlf men)]) (n := 2) [1, 0] rfl rfl (by decide))
      have hD : va_D A ([(rf_RW ct 0 mw 958 f), (rf_MO mo mw ma mf m0 m1 mu mv u0 u1 iz th1_4 mb mn mpt mbg mwr mwk mlf men)] ++ ws_9) := ty_permD hD (ty_ordp (E := [(rf_MO mo mw ma mf m0 m1 mu mv u0 u1 iz th1_4 mb mn mpt mbg mwr mwk mlf men), (rf_RW ct 0 mw 958 f)]) (E2 := [(rf_RW ct 0 mw 958 f), (rf_MO mo mw ma mf m0 m1 mu mv u0 u1 iz th1_4 mb mn mpt mbg mwr mwk mlf men)]) (n := 2) [1, 0] rfl rfl (by decide))
      refine ty_ki (wr := [(rf_RW ct 0 mw 958 f)]) (wc := ([(rf_MO mo mw ma mf m0 m1 mu mv u0 u1 iz th1_4 mb mn mpt mbg mwr mwk mlf men)] ++ ws_9)) (va_runV (As := [.int 1, .int 1]) (rest := []) ⟨hx, hb, hml, hown, hts⟩ (m_X11_throwsIf l D ct S ws_9 ph xx mo mw ma mf m0 m1 mu mv u0 u1 iz mb th1_4 mn mpt mbg mwr mwk mlf men (1 : Int32) (1 : Int32) _ hT h_mu h_mv h_u0 h_u1 hph hy1 (by decide)) (cm_V 2 hts kc_X11_throwsIf ki_RX11 kl_RX11_328 kv_X11_throwsIf kx_X11_throwsIf kd_X11_throwsIf ⟨Nat.le_of_ble_eq_true rfl, Nat.le_of_ble_eq_true rfl⟩) (ty_preE (wr := [(rf_RW ct 0 mw 958 f)]) (wc := ([(rf_MO mo mw ma mf m0 m1 mu mv u0 u1 iz th1_4 mb mn mpt mbg mwr mwk mlf men)] ++ ws_9)) (ci := 11) (q0 := 1) hP hK hD hS hA hX rfl rfl) rfl rfl hl.1 rfl (lv_room (Nat.le_of_ble_eq_true rfl)) dX11_noProgram_34 ⟨Nat.le_of_ble_eq_true rfl, Nat.le_of_ble_eq_true rfl⟩) hP hD hS hA (fun r_17 u H locs hw_18 hP hD hS => ?_)
      obtain ⟨ws_19, th1_20⟩ := u
      obtain ⟨hT, hp_21⟩ := hw_18
      have hp_21 : ((r_17 = 0 ∧ (1 : Int32) = 0) ∨ r_17 = 1) := hp_21
      have hP : va_P D vwCl ([(rf_RW ct 0 mw 958 f), (rf_MO mo mw ma mf m0 m1 mu mv u0 u1 iz th1_20 mb mn mpt mbg mwr mwk mlf men)] ++ ws_19) H := hP
      have hD : va_D A ([(rf_RW ct 0 mw 958 f), (rf_MO mo mw ma mf m0 m1 mu mv u0 u1 iz th1_20 mb mn mpt mbg mwr mwk mlf men)] ++ ws_19) := hD
      rcases hp_21 with ⟨rfl, hz_22⟩ | rfl
      · exact absurd hz_22 (by decide)
      · refine lv_if_eq (tgt := 44) hx hb dX11_noProgram_37 (by decide) (fun hc => absurd hc (by decide)) (fun _ => ?_)
        refine lv_iconst (v := 1) hx hb dX11_noProgram_40 (by decide) ?_
        refine lv_goto (tgt := 45) hx hb dX11_noProgram_41 (by decide) ?_
        have hP : va_P D vwCl ([(rf_MO mo mw ma mf m0 m1 mu mv u0 u1 iz th1_20 mb mn mpt mbg mwr mwk mlf men), (rf_RW ct 0 mw 958 f)] ++ ws_19) H := ty_permP hP (ty_ordp (E := [(rf_RW ct 0 mw 958 f), (rf_MO mo mw ma mf m0 m1 mu mv u0 u1 iz th1_20 mb mn mpt mbg mwr mwk mlf men)]) (E2 := [(rf_MO mo mw ma mf m0 m1 mu mv u0 u1 iz th1_20 mb mn mpt mbg mwr mwk mlf men), (rf_RW ct 0 mw 958 f)]) (n := 2) [1, 0] rfl rfl (by decide))
        have hD : va_D A ([(rf_MO mo mw ma mf m0 m1 mu mv u0 u1 iz th1_20 mb mn mpt mbg mwr mwk mlf men), (rf_RW ct 0 mw 958 f)] ++ ws_19) := ty_permD hD (ty_ordp (E := [(rf_RW ct 0 mw 958 f), (rf_MO mo mw ma mf m0 m1 mu mv u0 u1 iz th1_20 mb mn mpt mbg mwr mwk mlf men)]) (E2 := [(rf_MO mo mw ma mf m0 m1 mu mv u0 u1 iz th1_20 mb mn mpt mbg mwr mwk mlf men), (rf_RW ct 0 mw 958 f)]) (n := 2) [1, 0] rfl rfl (by decide))
        exact W.zret (v := 1) hx hb hr (by decide) (fun t ht hW => ⟨⟨1, (ws_19, th1_20), rfl, ⟨hT, (Or.inr rfl)⟩, by rw [ht]; exact hP, by rw [hAe]; exact hD⟩, hS.F ht⟩) hS.2.2 dX11_noProgram_45
  · refine lv_if_ne (tgt := 40) hx hb dX11_noProgram_5 (by decide) (fun _ => ?_) (fun hc => absurd hc (by decide))
    refine lv_iconst (v := 1) hx hb dX11_noProgram_40 (by decide) ?_
    refine lv_goto (tgt := 45) hx hb dX11_noProgram_41 (by decide) ?_
    exact W.zret (v := 1) hx hb hr (by decide) (fun t ht hW => ⟨⟨1, (ws_3, th1_4), rfl, ⟨hT, (Or.inr rfl)⟩, by rw [ht]; exact hP, by rw [hAe]; exact hD⟩, hS.F ht⟩) hS.2.2 dX11_noProgram_45
theorem dX11_noSlot_0 : decode cX11_noSlot 0 = .ok (.aload_n 0, 1) := by decide +kernel
theorem dX11_noSlot_1 : decode cX11_noSlot 1 = .ok (.iconst 0, 1) := by decide +kernel
theorem dX11_noSlot_2 : decode cX11_noSlot 2 = .ok (.putfield 49, 3) := by decide +kernel
theorem dX11_noSlot_5 : decode cX11_noSlot 5 = .ok (.aload_n 0, 1) := by decide +kernel
theorem dX11_noSlot_6 : decode cX11_noSlot 6 = .ok (.iload_n 1, 1) := by decide +kernel
theorem dX11_noSlot_7 : decode cX11_noSlot 7 = .ok (.i2l, 1) := by decide +kernel
theorem dX11_noSlot_8 : decode cX11_noSlot 8 = .ok (.lconst 0, 1) := by decide +kernel
theorem dX11_noSlot_9 : decode cX11_noSlot 9 = .ok (.lconst 1, 1) := by decide +kernel
theorem dX11_noSlot_10 : decode cX11_noSlot 10 = .ok (.invokestatic 70, 3) := by decide +kernel
theorem dX11_noSlot_13 : decode cX11_noSlot 13 = .ok (.ifCond .ne 7, 3) := by decide +kernel
theorem dX11_noSlot_16 : decode cX11_noSlot 16 = .ok (.iconst 1, 1) := by decide +kernel
theorem dX11_noSlot_17 : decode cX11_noSlot 17 = .ok (.goto 4, 3) := by decide +kernel
theorem dX11_noSlot_20 : decode cX11_noSlot 20 = .ok (.iconst 0, 1) := by decide +kernel
theorem dX11_noSlot_21 : decode cX11_noSlot 21 = .ok (.iconst 1, 1) := by decide +kernel
theorem dX11_noSlot_22 : decode cX11_noSlot 22 = .ok (.invokevirtual 328, 3) := by decide +kernel
theorem dX11_noSlot_25 : decode cX11_noSlot 25 = .ok (.ireturn, 1) := by decide +kernel
set_option maxRecDepth 100000 in
set_option maxHeartbeats 4000000 in
theorem m_X11_noSlot (l : Launch) (D : va_G) (ct : Nat → ClassId) (S : ty_S) (ws : va_W) (ph : va_W → Prop) (xx : Nat → Nat → Nat → Prop) (mo : Nat) (mw : Nat) (ma : Nat) (mf : Nat) (m0 : Nat) (m1 : Nat) (mu : Nat) (mv : Nat) (u0 : Nat) (u1 : Nat) (iz : Nat) (mb : Nat) (th : Int32) (mn : Int32) (mpt : Int32) (mbg : Int32) (mwr : Int32) (mwk : Int32) (mlf : Int32) (men : Int32) (p1 : Int32) (sz : Nat) (hT : ty_V ct S ph ws) (h_mu : S mu = some (.inr (1, 42))) (h_mv : S mv = some (.inr (1, 42))) (h_u0 : S u0 = some (.inr (1, 42))) (h_u1 : S u1 = some (.inr (1, 42))) (hph : ty_C ph xx) (hy1 : ty_y1 xx) : Met l yX11_noSlot (ws_ yX11_noSlot cX11_noSlot 2 (some .boolean)) ({ frames := 1, cells := 0, slots := 0, locals := 25 } : Room) (va_Pc [.ref mo, .int p1] (cmP D ct sz ([(rf_MO mo mw ma mf m0 m1 mu mv u0 u1 iz th mb mn mpt mbg mwr mwk mlf men)] ++ ws))) (va_Qi (fun (r : Int32) (u : va_W × Int32) => match u with | (u9, th1) => ty_V ct S ph u9 ∧ ((r = 0 ∧ 0 ≤ p1.toInt ∧ p1.toInt ≤ 1) ∨ r = 1)) (cmB D ([(rf_MO mo mw ma mf m0 m1 mu mv u0 u1 iz th mb mn mpt mbg mwr mwk mlf men)] ++ ws) sz (fun (u : va_W × Int32) => match u with | (u9, th1) => ([(rf_MO mo mw ma mf m0 m1 mu mv u0 u1 iz th1 mb mn mpt mbg mwr mwk mlf men)] ++ u9))) (va_A ([(rf_MO mo mw ma mf m0 m1 mu mv u0 u1 iz th mb mn mpt mbg mwr mwk mlf men)] ++ ws) sz)) 0 0 (va_A ([(rf_MO mo mw ma mf m0 m1 mu mv u0 u1 iz th mb mn mpt mbg mwr mwk mlf men)] ++ ws) sz) := by
  refine Met.ofW (cc := cX11_noSlot) (maxL := 2) (ret := (some .boolean)) (by decide) rfl ?_
  intro p e s m args below meth c s₁ B hml hv
  obtain ⟨rfl, hsz, hP, hK, hD0, hX⟩ := hv
  have hx := B.exec
  have hb := B.bytes
  have hr := B.returns
  have hts := ws_all (atoms_spec (ws := ws_ yX11_noSlot cX11_noSlot 2 (some .boolean)) B.pre)
  have hown : s.vm.findClass RX11 = some m.cls := findClass_of_methodNamed B.named
  have hlocks := B.notSynchronized
  subst hsz
  have hD := hD0.self (sz := s.heap.size)
  generalize hAe : va_A ([(rf_MO mo mw ma mf m0 m1 mu mv u0 u1 iz th mb mn mpt mbg mwr mwk mlf men)] ++ ws) s.heap.size = A at hD hX ⊢
  have hA : ∀ q : Nat, s.heap.size ≤ q → A q := fun q h => by rw [← hAe]; exact Or.inr h
  have hS : va_S A s.heap s.heap [] := va_S.rf
  have hl := lv_entry ([.ref mo, .int p1]) (n := 2) (Nat.le_of_ble_eq_true rfl)
  rw [lg_entry_eq]
  generalize (lg_sl ([.ref mo, .int p1]) ++ List.replicate (2 - (lg_sl ([.ref mo, .int p1])).length) Slot.unset).toArray = ls at hl ⊢
  have hl : lv_has ls 2 [(0, .ref mo), (1, .int p1)] := hl
  refine lv_aload_n hx hb dX11_noSlot_0 rfl (lv_at hl 0 rfl) ?_
  refine lv_iconst (v := 0) hx hb dX11_noSlot_1 (by decide) ?_
  refine va_put (v := .int 0) (ty := .int) (D := D) (ci := 11) (C := RX11) (T := TX11) (N := 19) hx hb hts in_X11 tyX11 tyX11_ok nmX11 hown hK hP hD hS 0 rfl rfl 10 (by decide) (hts _ kl_RX11_49) (fun _ h9 => h9) rfl (by decide +kernel) rfl rfl (Nat.le_of_ble_eq_true rfl) dX11_noSlot_2 (fun H locs hP hD hS => ?_)
  have hP : va_P D vwCl ([(rf_MO mo mw ma mf m0 m1 mu mv u0 u1 iz (0) mb mn mpt mbg mwr mwk mlf men)] ++ ws) H := hP
  have hD : va_D A ([(rf_MO mo mw ma mf m0 m1 mu mv u0 u1 iz (0) mb mn mpt mbg mwr mwk mlf men)] ++ ws) := hD
  refine lv_aload_n hx hb dX11_noSlot_5 rfl (lv_at hl 0 rfl) ?_
  refine lv_iload_n hx hb dX11_noSlot_6 rfl (lv_at hl 1 rfl) ?_
  refine lv_i2l hx hb dX11_noSlot_7 rfl ?_
  refine lv_lconst (v := 0) hx hb dX11_noSlot_8 (by decide) ?_
  refine lv_lconst (v := 1) hx hb dX11_noSlot_9 (by decide) ?_
  refine ty_ki (wr := [(rf_MO mo mw ma mf m0 m1 mu mv u0 u1 iz (0) mb mn mpt mbg mwr mwk mlf men)]) (wc := ([] ++ ws)) (va_runS (As := [.long p1.toInt64, .long 0, .long 1]) (rest := [.ref mo]) ⟨hx, hb, hml, hown, hts⟩ (m_X11_in l D ct S ws ph xx p1.toInt64 (0 : Int64) (1 : Int64) _ hT hph hy1) (cm_S 3 hts kc_X11_in ki_RX11 kl_RX11_70 ks_X11_in kd_X11_in ⟨Nat.le_of_ble_eq_true rfl, Nat.le_of_ble_eq_true rfl⟩) (ty_preS (wr := [(rf_MO mo mw ma mf m0 m1 mu mv u0 u1 iz (0) mb mn mpt mbg mwr mwk mlf men)]) (wc := ([] ++ ws)) hP hK hD hS hA hX) rfl rfl hl.1 rfl (lv_room (Nat.le_of_ble_eq_true rfl)) dX11_noSlot_10 ⟨Nat.le_of_ble_eq_true rfl, Nat.le_of_ble_eq_true rfl⟩) hP hD hS hA (fun r_1 u H locs hw_2 hP hD hS => ?_)
  obtain ⟨ws_3, rfl⟩ : ∃ z, z = u := ⟨_, rfl⟩
  obtain ⟨hT, rfl⟩ := hw_2
  have hP : va_P D vwCl ([(rf_MO mo mw ma mf m0 m1 mu mv u0 u1 iz (0) mb mn mpt mbg mwr mwk mlf men)] ++ ws_3) H := hP
  have hD : va_D A ([(rf_MO mo mw ma mf m0 m1 mu mv u0 u1 iz (0) mb mn mpt mbg mwr mwk mlf men)] ++ ws_3) := hD
  refine lv_if_ne (tgt := 20) hx hb dX11_noSlot_13 (by decide) (fun hc_4 => ?_) (fun hc_4 => ?_)
  · refine lv_iconst (v := 0) hx hb dX11_noSlot_20 (by decide) ?_
    refine lv_iconst (v := 1) hx hb dX11_noSlot_21 (by decide) ?_
    refine ty_ki (wr := []) (wc := ([(rf_MO mo mw ma mf m0 m1 mu mv u0 u1 iz (0) mb mn mpt mbg mwr mwk mlf men)] ++ ws_3)) (va_runV (As := [.int 0, .int 1]) (rest := []) ⟨hx, hb, hml, hown, hts⟩ (m_X11_throwsIf l D ct S ws_3 ph xx mo mw ma mf m0 m1 mu mv u0 u1 iz mb (0 : Int32) mn mpt mbg mwr mwk mlf men (0 : Int32) (1 : Int32) _ hT h_mu h_mv h_u0 h_u1 hph hy1 (by decide)) (cm_V 2 hts kc_X11_throwsIf ki_RX11 kl_RX11_328 kv_X11_throwsIf kx_X11_throwsIf kd_X11_throwsIf ⟨Nat.le_of_ble_eq_true rfl, Nat.le_of_ble_eq_true rfl⟩) (ty_preE (wr := []) (wc := ([(rf_MO mo mw ma mf m0 m1 mu mv u0 u1 iz (0) mb mn mpt mbg mwr mwk mlf men)] ++ ws_3)) (ci := 11) (q0 := 0) hP hK hD hS hA hX rfl rfl) rfl rfl hl.1 rfl (lv_room (Nat.le_of_ble_eq_true rfl)) dX11_noSlot_22 ⟨Nat.le_of_ble_eq_true rfl, Nat.le_of_ble_eq_true rfl⟩) hP hD hS hA (fun r_5 u H locs hw_6 hP hD hS => ?_)
    obtain ⟨ws_7, th1_8⟩ := u
    obtain ⟨hT, hp_9⟩ := hw_6
    have hp_9 : ((r_5 = 0 ∧ (0 : Int32) = 0) ∨ r_5 = 1) := hp_9
    have hP : va_P D vwCl ([(rf_MO mo mw ma mf m0 m1 mu mv u0 u1 iz th1_8 mb mn mpt mbg mwr mwk mlf men)] ++ ws_7) H := hP
    have hD : va_D A ([(rf_MO mo mw ma mf m0 m1 mu mv u0 u1 iz th1_8 mb mn mpt mbg mwr mwk mlf men)] ++ ws_7) := hD
    rcases hp_9 with ⟨rfl, hz_10⟩ | rfl
    · exact W.zret (v := 0) hx hb hr (by decide) (fun t ht hW => ⟨⟨0, (ws_7, th1_8), rfl, ⟨hT, (Or.inl ⟨rfl, (rf_rngc (L := 0) (U := 1) (by decide) (by decide) hc_4)⟩)⟩, by rw [ht]; exact hP, by rw [hAe]; exact hD⟩, hS.F ht⟩) hS.2.2 dX11_noSlot_25
    · exact W.zret (v := 1) hx hb hr (by decide) (fun t ht hW => ⟨⟨1, (ws_7, th1_8), rfl, ⟨hT, (Or.inr rfl)⟩, by rw [ht]; exact hP, by rw [hAe]; exact hD⟩, hS.F ht⟩) hS.2.2 dX11_noSlot_25
  · refine lv_iconst (v := 1) hx hb dX11_noSlot_16 (by decide) ?_
    refine lv_goto (tgt := 21) hx hb dX11_noSlot_17 (by decide) ?_
    refine lv_iconst (v := 1) hx hb dX11_noSlot_21 (by decide) ?_
    refine ty_ki (wr := []) (wc := ([(rf_MO mo mw ma mf m0 m1 mu mv u0 u1 iz (0) mb mn mpt mbg mwr mwk mlf men)] ++ ws_3)) (va_runV (As := [.int 1, .int 1]) (rest := []) ⟨hx, hb, hml, hown, hts⟩ (m_X11_throwsIf l D ct S ws_3 ph xx mo mw ma mf m0 m1 mu mv u0 u1 iz mb (0 : Int32) mn mpt mbg mwr mwk mlf men (1 : Int32) (1 : Int32) _ hT h_mu h_mv h_u0 h_u1 hph hy1 (by decide)) (cm_V 2 hts kc_X11_throwsIf ki_RX11 kl_RX11_328 kv_X11_throwsIf kx_X11_throwsIf kd_X11_throwsIf ⟨Nat.le_of_ble_eq_true rfl, Nat.le_of_ble_eq_true rfl⟩) (ty_preE (wr := []) (wc := ([(rf_MO mo mw ma mf m0 m1 mu mv u0 u1 iz (0) mb mn mpt mbg mwr mwk mlf men)] ++ ws_3)) (ci := 11) (q0 := 0) hP hK hD hS hA hX rfl rfl) rfl rfl hl.1 rfl (lv_room (Nat.le_of_ble_eq_true rfl)) dX11_noSlot_22 ⟨Nat.le_of_ble_eq_true rfl, Nat.le_of_ble_eq_true rfl⟩) hP hD hS hA (fun r_11 u H locs hw_12 hP hD hS => ?_)
    obtain ⟨ws_13, th1_14⟩ := u
    obtain ⟨hT, hp_15⟩ := hw_12
    have hp_15 : ((r_11 = 0 ∧ (1 : Int32) = 0) ∨ r_11 = 1) := hp_15
    have hP : va_P D vwCl ([(rf_MO mo mw ma mf m0 m1 mu mv u0 u1 iz th1_14 mb mn mpt mbg mwr mwk mlf men)] ++ ws_13) H := hP
    have hD : va_D A ([(rf_MO mo mw ma mf m0 m1 mu mv u0 u1 iz th1_14 mb mn mpt mbg mwr mwk mlf men)] ++ ws_13) := hD
    rcases hp_15 with ⟨rfl, hz_16⟩ | rfl
    · exact absurd hz_16 (by decide)
    · exact W.zret (v := 1) hx hb hr (by decide) (fun t ht hW => ⟨⟨1, (ws_13, th1_14), rfl, ⟨hT, (Or.inr rfl)⟩, by rw [ht]; exact hP, by rw [hAe]; exact hD⟩, hS.F ht⟩) hS.2.2 dX11_noSlot_25
theorem dX11_count_0 : decode cX11_count 0 = .ok (.aload_n 0, 1) := by decide +kernel
theorem dX11_count_1 : decode cX11_count 1 = .ok (.iconst 0, 1) := by decide +kernel
theorem dX11_count_2 : decode cX11_count 2 = .ok (.putfield 49, 3) := by decide +kernel
theorem dX11_count_5 : decode cX11_count 5 = .ok (.aload_n 0, 1) := by decide +kernel
theorem dX11_count_6 : decode cX11_count 6 = .ok (.iload_n 1, 1) := by decide +kernel
theorem dX11_count_7 : decode cX11_count 7 = .ok (.i2l, 1) := by decide +kernel
theorem dX11_count_8 : decode cX11_count 8 = .ok (.lconst 0, 1) := by decide +kernel
theorem dX11_count_9 : decode cX11_count 9 = .ok (.ldc2_w 326, 3) := by decide +kernel
theorem dX11_count_12 : decode cX11_count 12 = .ok (.invokestatic 70, 3) := by decide +kernel
theorem dX11_count_15 : decode cX11_count 15 = .ok (.ifCond .ne 7, 3) := by decide +kernel
theorem dX11_count_18 : decode cX11_count 18 = .ok (.iconst 1, 1) := by decide +kernel
theorem dX11_count_19 : decode cX11_count 19 = .ok (.goto 4, 3) := by decide +kernel
theorem dX11_count_22 : decode cX11_count 22 = .ok (.iconst 0, 1) := by decide +kernel
theorem dX11_count_23 : decode cX11_count 23 = .ok (.iconst 1, 1) := by decide +kernel
theorem dX11_count_24 : decode cX11_count 24 = .ok (.invokevirtual 328, 3) := by decide +kernel
theorem dX11_count_27 : decode cX11_count 27 = .ok (.ifCond .eq 7, 3) := by decide +kernel
theorem dX11_count_30 : decode cX11_count 30 = .ok (.iconst 0, 1) := by decide +kernel
theorem dX11_count_31 : decode cX11_count 31 = .ok (.goto 12, 3) := by decide +kernel
theorem dX11_count_34 : decode cX11_count 34 = .ok (.aload_n 0, 1) := by decide +kernel
theorem dX11_count_35 : decode cX11_count 35 = .ok (.getfield 9, 3) := by decide +kernel
theorem dX11_count_38 : decode cX11_count 38 = .ok (.bipush 9, 2) := by decide +kernel
theorem dX11_count_40 : decode cX11_count 40 = .ok (.iload_n 1, 1) := by decide +kernel
theorem dX11_count_41 : decode cX11_count 41 = .ok (.iadd, 1) := by decide +kernel
theorem dX11_count_42 : decode cX11_count 42 = .ok (.iaload, 1) := by decide +kernel
theorem dX11_count_43 : decode cX11_count 43 = .ok (.ireturn, 1) := by decide +kernel
set_option maxRecDepth 100000 in
set_option maxHeartbeats 4000000 in
theorem m_X11_count (l : Launch) (D : va_G) (ct : Nat → ClassId) (S : ty_S) (ws : va_W) (ph : va_W → Prop) (xx : Nat → Nat → Nat → Prop) (mo : Nat) (mw : Nat) (ma : Nat) (mf : Nat) (m0 : Nat) (m1 : Nat) (mu : Nat) (mv : Nat) (u0 : Nat) (u1 : Nat) (iz : Nat) (mb : Nat) (th : Int32) (mn : Int32) (mpt : Int32) (mbg : Int32) (mwr : Int32) (mwk : Int32) (mlf : Int32) (men : Int32) (f : Nat → Int32) (G : Nat → Int32) (cx : Int) (p1 : Int32) (sz : Nat) (hT : ty_V ct S ph ws) (h_mu : S mu = some (.inr (1, 42))) (h_mv : S mv = some (.inr (1, 42))) (h_u0 : S u0 = some (.inr (1, 42))) (h_u1 : S u1 = some (.inr (1, 42))) (hph : ty_C ph xx) (hy1 : ty_y1 xx) (hR : rf_R G cx f) : Met l yX11_count (ws_ yX11_count cX11_count 2 (some .int)) ({ frames := 1, cells := 0, slots := 0, locals := 25 } : Room) (va_Pc [.ref mo, .int p1] (cmP D ct sz ([(rf_MO mo mw ma mf m0 m1 mu mv u0 u1 iz th mb mn mpt mbg mwr mwk mlf men), (rf_RW ct 0 mw 958 f)] ++ ws))) (va_Qi (fun (r : Int32) (u : va_W × Int32) => match u with | (u9, th1) => ty_V ct S ph u9) (cmB D ([(rf_MO mo mw ma mf m0 m1 mu mv u0 u1 iz th mb mn mpt mbg mwr mwk mlf men), (rf_RW ct 0 mw 958 f)] ++ ws) sz (fun (u : va_W × Int32) => match u with | (u9, th1) => ([(rf_MO mo mw ma mf m0 m1 mu mv u0 u1 iz th1 mb mn mpt mbg mwr mwk mlf men), (rf_RW ct 0 mw 958 f)] ++ u9))) (va_A ([(rf_MO mo mw ma mf m0 m1 mu mv u0 u1 iz th mb mn mpt mbg mwr mwk mlf men), (rf_RW ct 0 mw 958 f)] ++ ws) sz)) 0 0 (va_A ([(rf_MO mo mw ma mf m0 m1 mu mv u0 u1 iz th mb mn mpt mbg mwr mwk mlf men), (rf_RW ct 0 mw 958 f)] ++ ws) sz) := by
  refine Met.ofW (cc := cX11_count) (maxL := 2) (ret := (some .int)) (by decide) rfl ?_
  intro p e s m args below meth c s₁ B hml hv
  obtain ⟨rfl, hsz, hP, hK, hD0, hX⟩ := hv
  have hx := B.exec
  have hb := B.bytes
  have hr := B.returns
  have hts := ws_all (atoms_spec (ws := ws_ yX11_count cX11_count 2 (some .int)) B.pre)
  have hown : s.vm.findClass RX11 = some m.cls := findClass_of_methodNamed B.named
  have hlocks := B.notSynchronized
  subst hsz
  have hD := hD0.self (sz := s.heap.size)
  generalize hAe : va_A ([(rf_MO mo mw ma mf m0 m1 mu mv u0 u1 iz th mb mn mpt mbg mwr mwk mlf men), (rf_RW ct 0 mw 958 f)] ++ ws) s.heap.size = A at hD hX ⊢
  have hA : ∀ q : Nat, s.heap.size ≤ q → A q := fun q h => by rw [← hAe]; exact Or.inr h
  have hS : va_S A s.heap s.heap [] := va_S.rf
  have hl := lv_entry ([.ref mo, .int p1]) (n := 2) (Nat.le_of_ble_eq_true rfl)
  rw [lg_entry_eq]
  generalize (lg_sl ([.ref mo, .int p1]) ++ List.replicate (2 - (lg_sl ([.ref mo, .int p1])).length) Slot.unset).toArray = ls at hl ⊢
  have hl : lv_has ls 2 [(0, .ref mo), (1, .int p1)] := hl
  refine lv_aload_n hx hb dX11_count_0 rfl (lv_at hl 0 rfl) ?_
  refine lv_iconst (v := 0) hx hb dX11_count_1 (by decide) ?_
  refine va_put (v := .int 0) (ty := .int) (D := D) (ci := 11) (C := RX11) (T := TX11) (N := 19) hx hb hts in_X11 tyX11 tyX11_ok nmX11 hown hK hP hD hS 0 rfl rfl 10 (by decide) (hts _ kl_RX11_49) (fun _ h9 => h9) rfl (by decide +kernel) rfl rfl (Nat.le_of_ble_eq_true rfl) dX11_count_2 (fun H locs hP hD hS => ?_)
  have hP : va_P D vwCl ([(rf_MO mo mw ma mf m0 m1 mu mv u0 u1 iz (0) mb mn mpt mbg mwr mwk mlf men), (rf_RW ct 0 mw 958 f)] ++ ws) H := hP
  have hD : va_D A ([(rf_MO mo mw ma mf m0 m1 mu mv u0 u1 iz (0) mb mn mpt mbg mwr mwk mlf men), (rf_RW ct 0 mw 958 f)] ++ ws) := hD
  refine lv_aload_n hx hb dX11_count_5 rfl (lv_at hl 0 rfl) ?_
  refine lv_iload_n hx hb dX11_count_6 rfl (lv_at hl 1 rfl) ?_
  refine lv_i2l hx hb dX11_count_7 rfl ?_
  refine lv_lconst (v := 0) hx hb dX11_count_8 (by decide) ?_
  refine lv_ldc2 hx hb hown (hts _ kl_RX11_326) dX11_count_9 ?_
  refine ty_ki (wr := [(rf_MO mo mw ma mf m0 m1 mu mv u0 u1 iz (0) mb mn mpt mbg mwr mwk mlf men), (rf_RW ct 0 mw 958 f)]) (wc := ([] ++ ws)) (va_runS (As := [.long p1.toInt64, .long 0, .long 2]) (rest := [.ref mo]) ⟨hx, hb, hml, hown, hts⟩ (m_X11_in l D ct S ws ph xx p1.toInt64 (0 : Int64) (2 : Int64) _ hT hph hy1) (cm_S 3 hts kc_X11_in ki_RX11 kl_RX11_70 ks_X11_in kd_X11_in ⟨Nat.le_of_ble_eq_true rfl, Nat.le_of_ble_eq_true rfl⟩) (ty_preS (wr := [(rf_MO mo mw ma mf m0 m1 mu mv u0 u1 iz (0) mb mn mpt mbg mwr mwk mlf men), (rf_RW ct 0 mw 958 f)]) (wc := ([] ++ ws)) hP hK hD hS hA hX) rfl rfl hl.1 rfl (lv_room (Nat.le_of_ble_eq_true rfl)) dX11_count_12 ⟨Nat.le_of_ble_eq_true rfl, Nat.le_of_ble_eq_true rfl⟩) hP hD hS hA (fun r_1 u H locs hw_2 hP hD hS => ?_)
  obtain ⟨ws_3, rfl⟩ : ∃ z, z = u := ⟨_, rfl⟩
  obtain ⟨hT, rfl⟩ := hw_2
  have hP : va_P D vwCl ([(rf_MO mo mw ma mf m0 m1 mu mv u0 u1 iz (0) mb mn mpt mbg mwr mwk mlf men), (rf_RW ct 0 mw 958 f)] ++ ws_3) H := hP
  have hD : va_D A ([(rf_MO mo mw ma mf m0 m1 mu mv u0 u1 iz (0) mb mn mpt mbg mwr mwk mlf men), (rf_RW ct 0 mw 958 f)] ++ ws_3) := hD
  refine lv_if_ne (tgt := 22) hx hb dX11_count_15 (by decide) (fun hc_4 => ?_) (fun hc_4 => ?_)
  · refine lv_iconst (v := 0) hx hb dX11_count_22 (by decide) ?_
    refine lv_iconst (v := 1) hx hb dX11_count_23 (by decide) ?_
    have hP : va_P D vwCl ([(rf_RW ct 0 mw 958 f), (rf_MO mo mw ma mf m0 m1 mu mv u0 u1 iz (0) mb mn mpt mbg mwr mwk mlf men)] ++ ws_3) H := ty_permP hP (ty_ordp (E := [(rf_MO mo mw ma mf m0 m1 mu mv u0 u1 iz (0) mb mn mpt mbg mwr mwk mlf men), (rf_RW ct 0 mw 958 f)]) (E2 := [(rf_RW ct 0 mw 958 f), (rf_MO mo mw ma mf m0 m1 mu mv u0 u1 iz (0) mb mn mpt mbg mwr mwk mlf men)]) (n := 2) [1, 0] rfl rfl (by decide))
    have hD : va_D A ([(rf_RW ct 0 mw 958 f), (rf_MO mo mw ma mf m0 m1 mu mv u0 u1 iz (0) mb mn mpt mbg mwr mwk mlf men)] ++ ws_3) := ty_permD hD (ty_ordp (E := [(rf_MO mo mw ma mf m0 m1 mu mv u0 u1 iz (0) mb mn mpt mbg mwr mwk mlf men), (rf_RW ct 0 mw 958 f)]) (E2 := [(rf_RW ct 0 mw 958 f), (rf_MO mo mw ma mf m0 m1 mu mv u0 u1 iz (0) mb mn mpt mbg mwr mwk mlf men)]) (n := 2) [1, 0] rfl rfl (by decide))
    refine ty_ki (wr := [(rf_RW ct 0 mw 958 f)]) (wc := ([(rf_MO mo mw ma mf m0 m1 mu mv u0 u1 iz (0) mb mn mpt mbg mwr mwk mlf men)] ++ ws_3)) (va_runV (As := [.int 0, .int 1]) (rest := []) ⟨hx, hb, hml, hown, hts⟩ (m_X11_throwsIf l D ct S ws_3 ph xx mo mw ma mf m0 m1 mu mv u0 u1 iz mb (0 : Int32) mn mpt mbg mwr mwk mlf men (0 : Int32) (1 : Int32) _ hT h_mu h_mv h_u0 h_u1 hph hy1 (by decide)) (cm_V 2 hts kc_X11_throwsIf ki_RX11 kl_RX11_328 kv_X11_throwsIf kx_X11_throwsIf kd_X11_throwsIf ⟨Nat.le_of_ble_eq_true rfl, Nat.le_of_ble_eq_true rfl⟩) (ty_preE (wr := [(rf_RW ct 0 mw 958 f)]) (wc := ([(rf_MO mo mw ma mf m0 m1 mu mv u0 u1 iz (0) mb mn mpt mbg mwr mwk mlf men)] ++ ws_3)) (ci := 11) (q0 := 1) hP hK hD hS hA hX rfl rfl) rfl rfl hl.1 rfl (lv_room (Nat.le_of_ble_eq_true rfl)) dX11_count_24 ⟨Nat.le_of_ble_eq_true rfl, Nat.le_of_ble_eq_true rfl⟩) hP hD hS hA (fun r_5 u H locs hw_6 hP hD hS => ?_)
    obtain ⟨ws_7, th1_8⟩ := u
    obtain ⟨hT, hp_9⟩ := hw_6
    have hp_9 : ((r_5 = 0 ∧ (0 : Int32) = 0) ∨ r_5 = 1) := hp_9
    have hP : va_P D vwCl ([(rf_RW ct 0 mw 958 f), (rf_MO mo mw ma mf m0 m1 mu mv u0 u1 iz th1_8 mb mn mpt mbg mwr mwk mlf men)] ++ ws_7) H := hP
    have hD : va_D A ([(rf_RW ct 0 mw 958 f), (rf_MO mo mw ma mf m0 m1 mu mv u0 u1 iz th1_8 mb mn mpt mbg mwr mwk mlf men)] ++ ws_7) := hD
    rcases hp_9 with ⟨rfl, hz_10⟩ | rfl
    · refine lv_if_eq (tgt := 34) hx hb dX11_count_27 (by decide) (fun _ => ?_) (fun hc => absurd (by decide) hc)
      refine lv_aload_n hx hb dX11_count_34 rfl (lv_at hl 0 rfl) ?_
      refine va_get (v := .ref mw) (D := D) (ci := 11) (C := RX11) (T := TX11) (N := 19) hx hb hts in_X11 hown hK hP 1 rfl rfl 0 (by decide) (hts _ kl_RX11_9) (fun _ h9 => h9) rfl dX11_count_35 ?_
      refine lv_bipush (v := 9) hx hb dX11_count_38 (by decide) ?_
      refine lv_iload_n hx hb dX11_count_40 rfl (lv_at hl 1 rfl) ?_
      refine lv_iadd hx hb dX11_count_41 ?_
      refine va_iald hx hb hK hP 0 0 rfl rfl (rf_in1 (by have := (rf_rngc (L := 0) (U := 2) (by decide) (by decide) hc_4); have := rf_add9 (a := 9) (A := 9) (B := 2) (by decide) this (by omega) (by omega); omega)) dX11_count_42 ?_
      have hP : va_P D vwCl ([(rf_MO mo mw ma mf m0 m1 mu mv u0 u1 iz th1_8 mb mn mpt mbg mwr mwk mlf men), (rf_RW ct 0 mw 958 f)] ++ ws_7) H := ty_permP hP (ty_ordp (E := [(rf_RW ct 0 mw 958 f), (rf_MO mo mw ma mf m0 m1 mu mv u0 u1 iz th1_8 mb mn mpt mbg mwr mwk mlf men)]) (E2 := [(rf_MO mo mw ma mf m0 m1 mu mv u0 u1 iz th1_8 mb mn mpt mbg mwr mwk mlf men), (rf_RW ct 0 mw 958 f)]) (n := 2) [1, 0] rfl rfl (by decide))
      have hD : va_D A ([(rf_MO mo mw ma mf m0 m1 mu mv u0 u1 iz th1_8 mb mn mpt mbg mwr mwk mlf men), (rf_RW ct 0 mw 958 f)] ++ ws_7) := ty_permD hD (ty_ordp (E := [(rf_RW ct 0 mw 958 f), (rf_MO mo mw ma mf m0 m1 mu mv u0 u1 iz th1_8 mb mn mpt mbg mwr mwk mlf men)]) (E2 := [(rf_MO mo mw ma mf m0 m1 mu mv u0 u1 iz th1_8 mb mn mpt mbg mwr mwk mlf men), (rf_RW ct 0 mw 958 f)]) (n := 2) [1, 0] rfl rfl (by decide))
      exact W.iret (v := (f (9 + p1).toNatClampNeg)) hx hb hr (fun t ht hW => ⟨⟨(f (9 + p1).toNatClampNeg), (ws_7, th1_8), rfl, hT, by rw [ht]; exact hP, by rw [hAe]; exact hD⟩, hS.F ht⟩) hS.2.2 dX11_count_43
    · refine lv_if_eq (tgt := 34) hx hb dX11_count_27 (by decide) (fun hc => absurd hc (by decide)) (fun _ => ?_)
      refine lv_iconst (v := 0) hx hb dX11_count_30 (by decide) ?_
      refine lv_goto (tgt := 43) hx hb dX11_count_31 (by decide) ?_
      have hP : va_P D vwCl ([(rf_MO mo mw ma mf m0 m1 mu mv u0 u1 iz th1_8 mb mn mpt mbg mwr mwk mlf men), (rf_RW ct 0 mw 958 f)] ++ ws_7) H := ty_permP hP (ty_ordp (E := [(rf_RW ct 0 mw 958 f), (rf_MO mo mw ma mf m0 m1 mu mv u0 u1 iz th1_8 mb mn mpt mbg mwr mwk mlf men)]) (E2 := [(rf_MO mo mw ma mf m0 m1 mu mv u0 u1 iz th1_8 mb mn mpt mbg mwr mwk mlf men), (rf_RW ct 0 mw 958 f)]) (n := 2) [1, 0] rfl rfl (by decide))
      have hD : va_D A ([(rf_MO mo mw ma mf m0 m1 mu mv u0 u1 iz th1_8 mb mn mpt mbg mwr mwk mlf men), (rf_RW ct 0 mw 958 f)] ++ ws_7) := ty_permD hD (ty_ordp (E := [(rf_RW ct 0 mw 958 f), (rf_MO mo mw ma mf m0 m1 mu mv u0 u1 iz th1_8 mb mn mpt mbg mwr mwk mlf men)]) (E2 := [(rf_MO mo mw ma mf m0 m1 mu mv u0 u1 iz th1_8 mb mn mpt mbg mwr mwk mlf men), (rf_RW ct 0 mw 958 f)]) (n := 2) [1, 0] rfl rfl (by decide))
      exact W.iret (v := 0) hx hb hr (fun t ht hW => ⟨⟨0, (ws_7, th1_8), rfl, hT, by rw [ht]; exact hP, by rw [hAe]; exact hD⟩, hS.F ht⟩) hS.2.2 dX11_count_43
  · refine lv_iconst (v := 1) hx hb dX11_count_18 (by decide) ?_
    refine lv_goto (tgt := 23) hx hb dX11_count_19 (by decide) ?_
    refine lv_iconst (v := 1) hx hb dX11_count_23 (by decide) ?_
    have hP : va_P D vwCl ([(rf_RW ct 0 mw 958 f), (rf_MO mo mw ma mf m0 m1 mu mv u0 u1 iz (0) mb mn mpt mbg mwr mwk mlf men)] ++ ws_3) H := ty_permP hP (ty_ordp (E := [(rf_MO mo mw ma mf m0 m1 mu mv u0 u1 iz (0) mb mn mpt mbg mwr mwk mlf men), (rf_RW ct 0 mw 958 f)]) (E2 := [(rf_RW ct 0 mw 958 f), (rf_MO mo mw ma mf m0 m1 mu mv u0 u1 iz (0) mb mn mpt mbg mwr mwk mlf men)]) (n := 2) [1, 0] rfl rfl (by decide))
    have hD : va_D A ([(rf_RW ct 0 mw 958 f), (rf_MO mo mw ma mf m0 m1 mu mv u0 u1 iz (0) mb mn mpt mbg mwr mwk mlf men)] ++ ws_3) := ty_permD hD (ty_ordp (E := [(rf_MO mo mw ma mf m0 m1 mu mv u0 u1 iz (0) mb mn mpt mbg mwr mwk mlf men), (rf_RW ct 0 mw 958 f)]) (E2 := [(rf_RW ct 0 mw 958 f), (rf_MO mo mw ma mf m0 m1 mu mv u0 u1 iz (0) mb mn mpt mbg mwr mwk mlf men)]) (n := 2) [1, 0] rfl rfl (by decide))
    refine ty_ki (wr := [(rf_RW ct 0 mw 958 f)]) (wc := ([(rf_MO mo mw ma mf m0 m1 mu mv u0 u1 iz (0) mb mn mpt mbg mwr mwk mlf men)] ++ ws_3)) (va_runV (As := [.int 1, .int 1]) (rest := []) ⟨hx, hb, hml, hown, hts⟩ (m_X11_throwsIf l D ct S ws_3 ph xx mo mw ma mf m0 m1 mu mv u0 u1 iz mb (0 : Int32) mn mpt mbg mwr mwk mlf men (1 : Int32) (1 : Int32) _ hT h_mu h_mv h_u0 h_u1 hph hy1 (by decide)) (cm_V 2 hts kc_X11_throwsIf ki_RX11 kl_RX11_328 kv_X11_throwsIf kx_X11_throwsIf kd_X11_throwsIf ⟨Nat.le_of_ble_eq_true rfl, Nat.le_of_ble_eq_true rfl⟩) (ty_preE (wr := [(rf_RW ct 0 mw 958 f)]) (wc := ([(rf_MO mo mw ma mf m0 m1 mu mv u0 u1 iz (0) mb mn mpt mbg mwr mwk mlf men)] ++ ws_3)) (ci := 11) (q0 := 1) hP hK hD hS hA hX rfl rfl) rfl rfl hl.1 rfl (lv_room (Nat.le_of_ble_eq_true rfl)) dX11_count_24 ⟨Nat.le_of_ble_eq_true rfl, Nat.le_of_ble_eq_true rfl⟩) hP hD hS hA (fun r_11 u H locs hw_12 hP hD hS => ?_)
    obtain ⟨ws_13, th1_14⟩ := u
    obtain ⟨hT, hp_15⟩ := hw_12
    have hp_15 : ((r_11 = 0 ∧ (1 : Int32) = 0) ∨ r_11 = 1) := hp_15
    have hP : va_P D vwCl ([(rf_RW ct 0 mw 958 f), (rf_MO mo mw ma mf m0 m1 mu mv u0 u1 iz th1_14 mb mn mpt mbg mwr mwk mlf men)] ++ ws_13) H := hP
    have hD : va_D A ([(rf_RW ct 0 mw 958 f), (rf_MO mo mw ma mf m0 m1 mu mv u0 u1 iz th1_14 mb mn mpt mbg mwr mwk mlf men)] ++ ws_13) := hD
    rcases hp_15 with ⟨rfl, hz_16⟩ | rfl
    · exact absurd hz_16 (by decide)
    · refine lv_if_eq (tgt := 34) hx hb dX11_count_27 (by decide) (fun hc => absurd hc (by decide)) (fun _ => ?_)
      refine lv_iconst (v := 0) hx hb dX11_count_30 (by decide) ?_
      refine lv_goto (tgt := 43) hx hb dX11_count_31 (by decide) ?_
      have hP : va_P D vwCl ([(rf_MO mo mw ma mf m0 m1 mu mv u0 u1 iz th1_14 mb mn mpt mbg mwr mwk mlf men), (rf_RW ct 0 mw 958 f)] ++ ws_13) H := ty_permP hP (ty_ordp (E := [(rf_RW ct 0 mw 958 f), (rf_MO mo mw ma mf m0 m1 mu mv u0 u1 iz th1_14 mb mn mpt mbg mwr mwk mlf men)]) (E2 := [(rf_MO mo mw ma mf m0 m1 mu mv u0 u1 iz th1_14 mb mn mpt mbg mwr mwk mlf men), (rf_RW ct 0 mw 958 f)]) (n := 2) [1, 0] rfl rfl (by decide))
      have hD : va_D A ([(rf_MO mo mw ma mf m0 m1 mu mv u0 u1 iz th1_14 mb mn mpt mbg mwr mwk mlf men), (rf_RW ct 0 mw 958 f)] ++ ws_13) := ty_permD hD (ty_ordp (E := [(rf_RW ct 0 mw 958 f), (rf_MO mo mw ma mf m0 m1 mu mv u0 u1 iz th1_14 mb mn mpt mbg mwr mwk mlf men)]) (E2 := [(rf_MO mo mw ma mf m0 m1 mu mv u0 u1 iz th1_14 mb mn mpt mbg mwr mwk mlf men), (rf_RW ct 0 mw 958 f)]) (n := 2) [1, 0] rfl rfl (by decide))
      exact W.iret (v := 0) hx hb hr (fun t ht hW => ⟨⟨0, (ws_13, th1_14), rfl, hT, by rw [ht]; exact hP, by rw [hAe]; exact hD⟩, hS.F ht⟩) hS.2.2 dX11_count_43
theorem dX11_setting_0 : decode cX11_setting 0 = .ok (.aload_n 0, 1) := by decide +kernel
theorem dX11_setting_1 : decode cX11_setting 1 = .ok (.iconst 0, 1) := by decide +kernel
theorem dX11_setting_2 : decode cX11_setting 2 = .ok (.putfield 49, 3) := by decide +kernel
theorem dX11_setting_5 : decode cX11_setting 5 = .ok (.aload_n 0, 1) := by decide +kernel
theorem dX11_setting_6 : decode cX11_setting 6 = .ok (.iload_n 1, 1) := by decide +kernel
theorem dX11_setting_7 : decode cX11_setting 7 = .ok (.i2l, 1) := by decide +kernel
theorem dX11_setting_8 : decode cX11_setting 8 = .ok (.lconst 0, 1) := by decide +kernel
theorem dX11_setting_9 : decode cX11_setting 9 = .ok (.ldc2_w 332, 3) := by decide +kernel
theorem dX11_setting_12 : decode cX11_setting 12 = .ok (.invokestatic 70, 3) := by decide +kernel
theorem dX11_setting_15 : decode cX11_setting 15 = .ok (.ifCond .ne 7, 3) := by decide +kernel
theorem dX11_setting_18 : decode cX11_setting 18 = .ok (.iconst 1, 1) := by decide +kernel
theorem dX11_setting_19 : decode cX11_setting 19 = .ok (.goto 4, 3) := by decide +kernel
theorem dX11_setting_22 : decode cX11_setting 22 = .ok (.iconst 0, 1) := by decide +kernel
theorem dX11_setting_23 : decode cX11_setting 23 = .ok (.iconst 1, 1) := by decide +kernel
theorem dX11_setting_24 : decode cX11_setting 24 = .ok (.invokevirtual 328, 3) := by decide +kernel
theorem dX11_setting_27 : decode cX11_setting 27 = .ok (.ifCond .eq 7, 3) := by decide +kernel
theorem dX11_setting_30 : decode cX11_setting 30 = .ok (.iconst 0, 1) := by decide +kernel
theorem dX11_setting_31 : decode cX11_setting 31 = .ok (.goto 9, 3) := by decide +kernel
theorem dX11_setting_34 : decode cX11_setting 34 = .ok (.aload_n 0, 1) := by decide +kernel
theorem dX11_setting_35 : decode cX11_setting 35 = .ok (.getfield 9, 3) := by decide +kernel
theorem dX11_setting_38 : decode cX11_setting 38 = .ok (.iload_n 1, 1) := by decide +kernel
theorem dX11_setting_39 : decode cX11_setting 39 = .ok (.iaload, 1) := by decide +kernel
theorem dX11_setting_40 : decode cX11_setting 40 = .ok (.ireturn, 1) := by decide +kernel
set_option maxRecDepth 100000 in
set_option maxHeartbeats 4000000 in
theorem m_X11_setting (l : Launch) (D : va_G) (ct : Nat → ClassId) (S : ty_S) (ws : va_W) (ph : va_W → Prop) (xx : Nat → Nat → Nat → Prop) (mo : Nat) (mw : Nat) (ma : Nat) (mf : Nat) (m0 : Nat) (m1 : Nat) (mu : Nat) (mv : Nat) (u0 : Nat) (u1 : Nat) (iz : Nat) (mb : Nat) (th : Int32) (mn : Int32) (mpt : Int32) (mbg : Int32) (mwr : Int32) (mwk : Int32) (mlf : Int32) (men : Int32) (f : Nat → Int32) (G : Nat → Int32) (cx : Int) (p1 : Int32) (sz : Nat) (hT : ty_V ct S ph ws) (h_mu : S mu = some (.inr (1, 42))) (h_mv : S mv = some (.inr (1, 42))) (h_u0 : S u0 = some (.inr (1, 42))) (h_u1 : S u1 = some (.inr (1, 42))) (hph : ty_C ph xx) (hy1 : ty_y1 xx) (hR : rf_R G cx f) : Met l yX11_setting (ws_ yX11_setting cX11_setting 2 (some .int)) ({ frames := 1, cells := 0, slots := 0, locals := 25 } : Room) (va_Pc [.ref mo, .int p1] (cmP D ct sz ([(rf_MO mo mw ma mf m0 m1 mu mv u0 u1 iz th mb mn mpt mbg mwr mwk mlf men), (rf_RW ct 0 mw 958 f)] ++ ws))) (va_Qi (fun (r : Int32) (u : va_W × Int32) => match u with | (u9, th1) => ty_V ct S ph u9) (cmB D ([(rf_MO mo mw ma mf m0 m1 mu mv u0 u1 iz th mb mn mpt mbg mwr mwk mlf men), (rf_RW ct 0 mw 958 f)] ++ ws) sz (fun (u : va_W × Int32) => match u with | (u9, th1) => ([(rf_MO mo mw ma mf m0 m1 mu mv u0 u1 iz th1 mb mn mpt mbg mwr mwk mlf men), (rf_RW ct 0 mw 958 f)] ++ u9))) (va_A ([(rf_MO mo mw ma mf m0 m1 mu mv u0 u1 iz th mb mn mpt mbg mwr mwk mlf men), (rf_RW ct 0 mw 958 f)] ++ ws) sz)) 0 0 (va_A ([(rf_MO mo mw ma mf m0 m1 mu mv u0 u1 iz th mb mn mpt mbg mwr mwk mlf men), (rf_RW ct 0 mw 958 f)] ++ ws) sz) := by
  refine Met.ofW (cc := cX11_setting) (maxL := 2) (ret := (some .int)) (by decide) rfl ?_
  intro p e s m args below meth c s₁ B hml hv
  obtain ⟨rfl, hsz, hP, hK, hD0, hX⟩ := hv
  have hx := B.exec
  have hb := B.bytes
  have hr := B.returns
  have hts := ws_all (atoms_spec (ws := ws_ yX11_setting cX11_setting 2 (some .int)) B.pre)
  have hown : s.vm.findClass RX11 = some m.cls := findClass_of_methodNamed B.named
  have hlocks := B.notSynchronized
  subst hsz
  have hD := hD0.self (sz := s.heap.size)
  generalize hAe : va_A ([(rf_MO mo mw ma mf m0 m1 mu mv u0 u1 iz th mb mn mpt mbg mwr mwk mlf men), (rf_RW ct 0 mw 958 f)] ++ ws) s.heap.size = A at hD hX ⊢
  have hA : ∀ q : Nat, s.heap.size ≤ q → A q := fun q h => by rw [← hAe]; exact Or.inr h
  have hS : va_S A s.heap s.heap [] := va_S.rf
  have hl := lv_entry ([.ref mo, .int p1]) (n := 2) (Nat.le_of_ble_eq_true rfl)
  rw [lg_entry_eq]
  generalize (lg_sl ([.ref mo, .int p1]) ++ List.replicate (2 - (lg_sl ([.ref mo, .int p1])).length) Slot.unset).toArray = ls at hl ⊢
  have hl : lv_has ls 2 [(0, .ref mo), (1, .int p1)] := hl
  refine lv_aload_n hx hb dX11_setting_0 rfl (lv_at hl 0 rfl) ?_
  refine lv_iconst (v := 0) hx hb dX11_setting_1 (by decide) ?_
  refine va_put (v := .int 0) (ty := .int) (D := D) (ci := 11) (C := RX11) (T := TX11) (N := 19) hx hb hts in_X11 tyX11 tyX11_ok nmX11 hown hK hP hD hS 0 rfl rfl 10 (by decide) (hts _ kl_RX11_49) (fun _ h9 => h9) rfl (by decide +kernel) rfl rfl (Nat.le_of_ble_eq_true rfl) dX11_setting_2 (fun H locs hP hD hS => ?_)
  have hP : va_P D vwCl ([(rf_MO mo mw ma mf m0 m1 mu mv u0 u1 iz (0) mb mn mpt mbg mwr mwk mlf men), (rf_RW ct 0 mw 958 f)] ++ ws) H := hP
  have hD : va_D A ([(rf_MO mo mw ma mf m0 m1 mu mv u0 u1 iz (0) mb mn mpt mbg mwr mwk mlf men), (rf_RW ct 0 mw 958 f)] ++ ws) := hD
  refine lv_aload_n hx hb dX11_setting_5 rfl (lv_at hl 0 rfl) ?_
  refine lv_iload_n hx hb dX11_setting_6 rfl (lv_at hl 1 rfl) ?_
  refine lv_i2l hx hb dX11_setting_7 rfl ?_
  refine lv_lconst (v := 0) hx hb dX11_setting_8 (by decide) ?_
  refine lv_ldc2 hx hb hown (hts _ kl_RX11_332) dX11_setting_9 ?_
  refine ty_ki (wr := [(rf_MO mo mw ma mf m0 m1 mu mv u0 u1 iz (0) mb mn mpt mbg mwr mwk mlf men), (rf_RW ct 0 mw 958 f)]) (wc := ([] ++ ws)) (va_runS (As := [.long p1.toInt64, .long 0, .long 7]) (rest := [.ref mo]) ⟨hx, hb, hml, hown, hts⟩ (m_X11_in l D ct S ws ph xx p1.toInt64 (0 : Int64) (7 : Int64) _ hT hph hy1) (cm_S 3 hts kc_X11_in ki_RX11 kl_RX11_70 ks_X11_in kd_X11_in ⟨Nat.le_of_ble_eq_true rfl, Nat.le_of_ble_eq_true rfl⟩) (ty_preS (wr := [(rf_MO mo mw ma mf m0 m1 mu mv u0 u1 iz (0) mb mn mpt mbg mwr mwk mlf men), (rf_RW ct 0 mw 958 f)]) (wc := ([] ++ ws)) hP hK hD hS hA hX) rfl rfl hl.1 rfl (lv_room (Nat.le_of_ble_eq_true rfl)) dX11_setting_12 ⟨Nat.le_of_ble_eq_true rfl, Nat.le_of_ble_eq_true rfl⟩) hP hD hS hA (fun r_1 u H locs hw_2 hP hD hS => ?_)
  obtain ⟨ws_3, rfl⟩ : ∃ z, z = u := ⟨_, rfl⟩
  obtain ⟨hT, rfl⟩ := hw_2
  have hP : va_P D vwCl ([(rf_MO mo mw ma mf m0 m1 mu mv u0 u1 iz (0) mb mn mpt mbg mwr mwk mlf men), (rf_RW ct 0 mw 958 f)] ++ ws_3) H := hP
  have hD : va_D A ([(rf_MO mo mw ma mf m0 m1 mu mv u0 u1 iz (0) mb mn mpt mbg mwr mwk mlf men), (rf_RW ct 0 mw 958 f)] ++ ws_3) := hD
  refine lv_if_ne (tgt := 22) hx hb dX11_setting_15 (by decide) (fun hc_4 => ?_) (fun hc_4 => ?_)
  · refine lv_iconst (v := 0) hx hb dX11_setting_22 (by decide) ?_
    refine lv_iconst (v := 1) hx hb dX11_setting_23 (by decide) ?_
    have hP : va_P D vwCl ([(rf_RW ct 0 mw 958 f), (rf_MO mo mw ma mf m0 m1 mu mv u0 u1 iz (0) mb mn mpt mbg mwr mwk mlf men)] ++ ws_3) H := ty_permP hP (ty_ordp (E := [(rf_MO mo mw ma mf m0 m1 mu mv u0 u1 iz (0) mb mn mpt mbg mwr mwk mlf men), (rf_RW ct 0 mw 958 f)]) (E2 := [(rf_RW ct 0 mw 958 f), (rf_MO mo mw ma mf m0 m1 mu mv u0 u1 iz (0) mb mn mpt mbg mwr mwk mlf men)]) (n := 2) [1, 0] rfl rfl (by decide))
    have hD : va_D A ([(rf_RW ct 0 mw 958 f), (rf_MO mo mw ma mf m0 m1 mu mv u0 u1 iz (0) mb mn mpt mbg mwr mwk mlf men)] ++ ws_3) := ty_permD hD (ty_ordp (E := [(rf_MO mo mw ma mf m0 m1 mu mv u0 u1 iz (0) mb mn mpt mbg mwr mwk mlf men), (rf_RW ct 0 mw 958 f)]) (E2 := [(rf_RW ct 0 mw 958 f), (rf_MO mo mw ma mf m0 m1 mu mv u0 u1 iz (0) mb mn mpt mbg mwr mwk mlf men)]) (n := 2) [1, 0] rfl rfl (by decide))
    refine ty_ki (wr := [(rf_RW ct 0 mw 958 f)]) (wc := ([(rf_MO mo mw ma mf m0 m1 mu mv u0 u1 iz (0) mb mn mpt mbg mwr mwk mlf men)] ++ ws_3)) (va_runV (As := [.int 0, .int 1]) (rest := []) ⟨hx, hb, hml, hown, hts⟩ (m_X11_throwsIf l D ct S ws_3 ph xx mo mw ma mf m0 m1 mu mv u0 u1 iz mb (0 : Int32) mn mpt mbg mwr mwk mlf men (0 : Int32) (1 : Int32) _ hT h_mu h_mv h_u0 h_u1 hph hy1 (by decide)) (cm_V 2 hts kc_X11_throwsIf ki_RX11 kl_RX11_328 kv_X11_throwsIf kx_X11_throwsIf kd_X11_throwsIf ⟨Nat.le_of_ble_eq_true rfl, Nat.le_of_ble_eq_true rfl⟩) (ty_preE (wr := [(rf_RW ct 0 mw 958 f)]) (wc := ([(rf_MO mo mw ma mf m0 m1 mu mv u0 u1 iz (0) mb mn mpt mbg mwr mwk mlf men)] ++ ws_3)) (ci := 11) (q0 := 1) hP hK hD hS hA hX rfl rfl) rfl rfl hl.1 rfl (lv_room (Nat.le_of_ble_eq_true rfl)) dX11_setting_24 ⟨Nat.le_of_ble_eq_true rfl, Nat.le_of_ble_eq_true rfl⟩) hP hD hS hA (fun r_5 u H locs hw_6 hP hD hS => ?_)
    obtain ⟨ws_7, th1_8⟩ := u
    obtain ⟨hT, hp_9⟩ := hw_6
    have hp_9 : ((r_5 = 0 ∧ (0 : Int32) = 0) ∨ r_5 = 1) := hp_9
    have hP : va_P D vwCl ([(rf_RW ct 0 mw 958 f), (rf_MO mo mw ma mf m0 m1 mu mv u0 u1 iz th1_8 mb mn mpt mbg mwr mwk mlf men)] ++ ws_7) H := hP
    have hD : va_D A ([(rf_RW ct 0 mw 958 f), (rf_MO mo mw ma mf m0 m1 mu mv u0 u1 iz th1_8 mb mn mpt mbg mwr mwk mlf men)] ++ ws_7) := hD
    rcases hp_9 with ⟨rfl, hz_10⟩ | rfl
    · refine lv_if_eq (tgt := 34) hx hb dX11_setting_27 (by decide) (fun _ => ?_) (fun hc => absurd (by decide) hc)
      refine lv_aload_n hx hb dX11_setting_34 rfl (lv_at hl 0 rfl) ?_
      refine va_get (v := .ref mw) (D := D) (ci := 11) (C := RX11) (T := TX11) (N := 19) hx hb hts in_X11 hown hK hP 1 rfl rfl 0 (by decide) (hts _ kl_RX11_9) (fun _ h9 => h9) rfl dX11_setting_35 ?_
      refine lv_iload_n hx hb dX11_setting_38 rfl (lv_at hl 1 rfl) ?_
      refine va_iald hx hb hK hP 0 0 rfl rfl (rf_in1 (by have := (rf_rngc (L := 0) (U := 7) (by decide) (by decide) hc_4); omega)) dX11_setting_39 ?_
      have hP : va_P D vwCl ([(rf_MO mo mw ma mf m0 m1 mu mv u0 u1 iz th1_8 mb mn mpt mbg mwr mwk mlf men), (rf_RW ct 0 mw 958 f)] ++ ws_7) H := ty_permP hP (ty_ordp (E := [(rf_RW ct 0 mw 958 f), (rf_MO mo mw ma mf m0 m1 mu mv u0 u1 iz th1_8 mb mn mpt mbg mwr mwk mlf men)]) (E2 := [(rf_MO mo mw ma mf m0 m1 mu mv u0 u1 iz th1_8 mb mn mpt mbg mwr mwk mlf men), (rf_RW ct 0 mw 958 f)]) (n := 2) [1, 0] rfl rfl (by decide))
      have hD : va_D A ([(rf_MO mo mw ma mf m0 m1 mu mv u0 u1 iz th1_8 mb mn mpt mbg mwr mwk mlf men), (rf_RW ct 0 mw 958 f)] ++ ws_7) := ty_permD hD (ty_ordp (E := [(rf_RW ct 0 mw 958 f), (rf_MO mo mw ma mf m0 m1 mu mv u0 u1 iz th1_8 mb mn mpt mbg mwr mwk mlf men)]) (E2 := [(rf_MO mo mw ma mf m0 m1 mu mv u0 u1 iz th1_8 mb mn mpt mbg mwr mwk mlf men), (rf_RW ct 0 mw 958 f)]) (n := 2) [1, 0] rfl rfl (by decide))
      exact W.iret (v := (f p1.toNatClampNeg)) hx hb hr (fun t ht hW => ⟨⟨(f p1.toNatClampNeg), (ws_7, th1_8), rfl, hT, by rw [ht]; exact hP, by rw [hAe]; exact hD⟩, hS.F ht⟩) hS.2.2 dX11_setting_40
    · refine lv_if_eq (tgt := 34) hx hb dX11_setting_27 (by decide) (fun hc => absurd hc (by decide)) (fun _ => ?_)
      refine lv_iconst (v := 0) hx hb dX11_setting_30 (by decide) ?_
      refine lv_goto (tgt := 40) hx hb dX11_setting_31 (by decide) ?_
      have hP : va_P D vwCl ([(rf_MO mo mw ma mf m0 m1 mu mv u0 u1 iz th1_8 mb mn mpt mbg mwr mwk mlf men), (rf_RW ct 0 mw 958 f)] ++ ws_7) H := ty_permP hP (ty_ordp (E := [(rf_RW ct 0 mw 958 f), (rf_MO mo mw ma mf m0 m1 mu mv u0 u1 iz th1_8 mb mn mpt mbg mwr mwk mlf men)]) (E2 := [(rf_MO mo mw ma mf m0 m1 mu mv u0 u1 iz th1_8 mb mn mpt mbg mwr mwk mlf men), (rf_RW ct 0 mw 958 f)]) (n := 2) [1, 0] rfl rfl (by decide))
      have hD : va_D A ([(rf_MO mo mw ma mf m0 m1 mu mv u0 u1 iz th1_8 mb mn mpt mbg mwr mwk mlf men), (rf_RW ct 0 mw 958 f)] ++ ws_7) := ty_permD hD (ty_ordp (E := [(rf_RW ct 0 mw 958 f), (rf_MO mo mw ma mf m0 m1 mu mv u0 u1 iz th1_8 mb mn mpt mbg mwr mwk mlf men)]) (E2 := [(rf_MO mo mw ma mf m0 m1 mu mv u0 u1 iz th1_8 mb mn mpt mbg mwr mwk mlf men), (rf_RW ct 0 mw 958 f)]) (n := 2) [1, 0] rfl rfl (by decide))
      exact W.iret (v := 0) hx hb hr (fun t ht hW => ⟨⟨0, (ws_7, th1_8), rfl, hT, by rw [ht]; exact hP, by rw [hAe]; exact hD⟩, hS.F ht⟩) hS.2.2 dX11_setting_40
  · refine lv_iconst (v := 1) hx hb dX11_setting_18 (by decide) ?_
    refine lv_goto (tgt := 23) hx hb dX11_setting_19 (by decide) ?_
    refine lv_iconst (v := 1) hx hb dX11_setting_23 (by decide) ?_
    have hP : va_P D vwCl ([(rf_RW ct 0 mw 958 f), (rf_MO mo mw ma mf m0 m1 mu mv u0 u1 iz (0) mb mn mpt mbg mwr mwk mlf men)] ++ ws_3) H := ty_permP hP (ty_ordp (E := [(rf_MO mo mw ma mf m0 m1 mu mv u0 u1 iz (0) mb mn mpt mbg mwr mwk mlf men), (rf_RW ct 0 mw 958 f)]) (E2 := [(rf_RW ct 0 mw 958 f), (rf_MO mo mw ma mf m0 m1 mu mv u0 u1 iz (0) mb mn mpt mbg mwr mwk mlf men)]) (n := 2) [1, 0] rfl rfl (by decide))
    have hD : va_D A ([(rf_RW ct 0 mw 958 f), (rf_MO mo mw ma mf m0 m1 mu mv u0 u1 iz (0) mb mn mpt mbg mwr mwk mlf men)] ++ ws_3) := ty_permD hD (ty_ordp (E := [(rf_MO mo mw ma mf m0 m1 mu mv u0 u1 iz (0) mb mn mpt mbg mwr mwk mlf men), (rf_RW ct 0 mw 958 f)]) (E2 := [(rf_RW ct 0 mw 958 f), (rf_MO mo mw ma mf m0 m1 mu mv u0 u1 iz (0) mb mn mpt mbg mwr mwk mlf men)]) (n := 2) [1, 0] rfl rfl (by decide))
    refine ty_ki (wr := [(rf_RW ct 0 mw 958 f)]) (wc := ([(rf_MO mo mw ma mf m0 m1 mu mv u0 u1 iz (0) mb mn mpt mbg mwr mwk mlf men)] ++ ws_3)) (va_runV (As := [.int 1, .int 1]) (rest := []) ⟨hx, hb, hml, hown, hts⟩ (m_X11_throwsIf l D ct S ws_3 ph xx mo mw ma mf m0 m1 mu mv u0 u1 iz mb (0 : Int32) mn mpt mbg mwr mwk mlf men (1 : Int32) (1 : Int32) _ hT h_mu h_mv h_u0 h_u1 hph hy1 (by decide)) (cm_V 2 hts kc_X11_throwsIf ki_RX11 kl_RX11_328 kv_X11_throwsIf kx_X11_throwsIf kd_X11_throwsIf ⟨Nat.le_of_ble_eq_true rfl, Nat.le_of_ble_eq_true rfl⟩) (ty_preE (wr := [(rf_RW ct 0 mw 958 f)]) (wc := ([(rf_MO mo mw ma mf m0 m1 mu mv u0 u1 iz (0) mb mn mpt mbg mwr mwk mlf men)] ++ ws_3)) (ci := 11) (q0 := 1) hP hK hD hS hA hX rfl rfl) rfl rfl hl.1 rfl (lv_room (Nat.le_of_ble_eq_true rfl)) dX11_setting_24 ⟨Nat.le_of_ble_eq_true rfl, Nat.le_of_ble_eq_true rfl⟩) hP hD hS hA (fun r_11 u H locs hw_12 hP hD hS => ?_)
    obtain ⟨ws_13, th1_14⟩ := u
    obtain ⟨hT, hp_15⟩ := hw_12
    have hp_15 : ((r_11 = 0 ∧ (1 : Int32) = 0) ∨ r_11 = 1) := hp_15
    have hP : va_P D vwCl ([(rf_RW ct 0 mw 958 f), (rf_MO mo mw ma mf m0 m1 mu mv u0 u1 iz th1_14 mb mn mpt mbg mwr mwk mlf men)] ++ ws_13) H := hP
    have hD : va_D A ([(rf_RW ct 0 mw 958 f), (rf_MO mo mw ma mf m0 m1 mu mv u0 u1 iz th1_14 mb mn mpt mbg mwr mwk mlf men)] ++ ws_13) := hD
    rcases hp_15 with ⟨rfl, hz_16⟩ | rfl
    · exact absurd hz_16 (by decide)
    · refine lv_if_eq (tgt := 34) hx hb dX11_setting_27 (by decide) (fun hc => absurd hc (by decide)) (fun _ => ?_)
      refine lv_iconst (v := 0) hx hb dX11_setting_30 (by decide) ?_
      refine lv_goto (tgt := 40) hx hb dX11_setting_31 (by decide) ?_
      have hP : va_P D vwCl ([(rf_MO mo mw ma mf m0 m1 mu mv u0 u1 iz th1_14 mb mn mpt mbg mwr mwk mlf men), (rf_RW ct 0 mw 958 f)] ++ ws_13) H := ty_permP hP (ty_ordp (E := [(rf_RW ct 0 mw 958 f), (rf_MO mo mw ma mf m0 m1 mu mv u0 u1 iz th1_14 mb mn mpt mbg mwr mwk mlf men)]) (E2 := [(rf_MO mo mw ma mf m0 m1 mu mv u0 u1 iz th1_14 mb mn mpt mbg mwr mwk mlf men), (rf_RW ct 0 mw 958 f)]) (n := 2) [1, 0] rfl rfl (by decide))
      have hD : va_D A ([(rf_MO mo mw ma mf m0 m1 mu mv u0 u1 iz th1_14 mb mn mpt mbg mwr mwk mlf men), (rf_RW ct 0 mw 958 f)] ++ ws_13) := ty_permD hD (ty_ordp (E := [(rf_RW ct 0 mw 958 f), (rf_MO mo mw ma mf m0 m1 mu mv u0 u1 iz th1_14 mb mn mpt mbg mwr mwk mlf men)]) (E2 := [(rf_MO mo mw ma mf m0 m1 mu mv u0 u1 iz th1_14 mb mn mpt mbg mwr mwk mlf men), (rf_RW ct 0 mw 958 f)]) (n := 2) [1, 0] rfl rfl (by decide))
      exact W.iret (v := 0) hx hb hr (fun t ht hW => ⟨⟨0, (ws_13, th1_14), rfl, hT, by rw [ht]; exact hP, by rw [hAe]; exact hD⟩, hS.F ht⟩) hS.2.2 dX11_setting_40
theorem dX11_setAmbient_0 : decode cX11_setAmbient 0 = .ok (.aload_n 0, 1) := by decide +kernel
theorem dX11_setAmbient_1 : decode cX11_setAmbient 1 = .ok (.iconst 0, 1) := by decide +kernel
theorem dX11_setAmbient_2 : decode cX11_setAmbient 2 = .ok (.putfield 49, 3) := by decide +kernel
theorem dX11_setAmbient_5 : decode cX11_setAmbient 5 = .ok (.aload_n 0, 1) := by decide +kernel
theorem dX11_setAmbient_6 : decode cX11_setAmbient 6 = .ok (.iload_n 1, 1) := by decide +kernel
theorem dX11_setAmbient_7 : decode cX11_setAmbient 7 = .ok (.i2l, 1) := by decide +kernel
theorem dX11_setAmbient_8 : decode cX11_setAmbient 8 = .ok (.lconst 0, 1) := by decide +kernel
theorem dX11_setAmbient_9 : decode cX11_setAmbient 9 = .ok (.ldc2_w 334, 3) := by decide +kernel
theorem dX11_setAmbient_12 : decode cX11_setAmbient 12 = .ok (.invokestatic 70, 3) := by decide +kernel
theorem dX11_setAmbient_15 : decode cX11_setAmbient 15 = .ok (.ifCond .ne 7, 3) := by decide +kernel
theorem dX11_setAmbient_18 : decode cX11_setAmbient 18 = .ok (.iconst 1, 1) := by decide +kernel
theorem dX11_setAmbient_19 : decode cX11_setAmbient 19 = .ok (.goto 4, 3) := by decide +kernel
theorem dX11_setAmbient_22 : decode cX11_setAmbient 22 = .ok (.iconst 0, 1) := by decide +kernel
theorem dX11_setAmbient_23 : decode cX11_setAmbient 23 = .ok (.iconst 1, 1) := by decide +kernel
theorem dX11_setAmbient_24 : decode cX11_setAmbient 24 = .ok (.invokevirtual 328, 3) := by decide +kernel
theorem dX11_setAmbient_27 : decode cX11_setAmbient 27 = .ok (.ifCond .eq 5, 3) := by decide +kernel
theorem dX11_setAmbient_30 : decode cX11_setAmbient 30 = .ok (.iconst 0, 1) := by decide +kernel
theorem dX11_setAmbient_31 : decode cX11_setAmbient 31 = .ok (.ireturn, 1) := by decide +kernel
theorem dX11_setAmbient_32 : decode cX11_setAmbient 32 = .ok (.aload_n 0, 1) := by decide +kernel
theorem dX11_setAmbient_33 : decode cX11_setAmbient 33 = .ok (.getfield 9, 3) := by decide +kernel
theorem dX11_setAmbient_36 : decode cX11_setAmbient 36 = .ok (.bipush 7, 2) := by decide +kernel
theorem dX11_setAmbient_38 : decode cX11_setAmbient 38 = .ok (.iaload, 1) := by decide +kernel
theorem dX11_setAmbient_39 : decode cX11_setAmbient 39 = .ok (.istore_n 2, 1) := by decide +kernel
theorem dX11_setAmbient_40 : decode cX11_setAmbient 40 = .ok (.aload_n 0, 1) := by decide +kernel
theorem dX11_setAmbient_41 : decode cX11_setAmbient 41 = .ok (.getfield 9, 3) := by decide +kernel
theorem dX11_setAmbient_44 : decode cX11_setAmbient 44 = .ok (.bipush 7, 2) := by decide +kernel
theorem dX11_setAmbient_46 : decode cX11_setAmbient 46 = .ok (.iload_n 1, 1) := by decide +kernel
theorem dX11_setAmbient_47 : decode cX11_setAmbient 47 = .ok (.iastore, 1) := by decide +kernel
theorem dX11_setAmbient_48 : decode cX11_setAmbient 48 = .ok (.iload_n 2, 1) := by decide +kernel
theorem dX11_setAmbient_49 : decode cX11_setAmbient 49 = .ok (.ireturn, 1) := by decide +kernel
set_option maxRecDepth 100000 in
set_option maxHeartbeats 4000000 in
theorem m_X11_setAmbient (l : Launch) (D : va_G) (ct : Nat → ClassId) (S : ty_S) (ws : va_W) (ph : va_W → Prop) (xx : Nat → Nat → Nat → Prop) (mo : Nat) (mw : Nat) (ma : Nat) (mf : Nat) (m0 : Nat) (m1 : Nat) (mu : Nat) (mv : Nat) (u0 : Nat) (u1 : Nat) (iz : Nat) (mb : Nat) (th : Int32) (mn : Int32) (mpt : Int32) (mbg : Int32) (mwr : Int32) (mwk : Int32) (mlf : Int32) (men : Int32) (f : Nat → Int32) (G : Nat → Int32) (cx : Int) (p1 : Int32) (sz : Nat) (hT : ty_V ct S ph ws) (h_mu : S mu = some (.inr (1, 42))) (h_mv : S mv = some (.inr (1, 42))) (h_u0 : S u0 = some (.inr (1, 42))) (h_u1 : S u1 = some (.inr (1, 42))) (hph : ty_C ph xx) (hy1 : ty_y1 xx) (hR : rf_R G cx f) : Met l yX11_setAmbient (ws_ yX11_setAmbient cX11_setAmbient 3 (some .int)) ({ frames := 1, cells := 0, slots := 0, locals := 25 } : Room) (va_Pc [.ref mo, .int p1] (cmP D ct sz ([(rf_MO mo mw ma mf m0 m1 mu mv u0 u1 iz th mb mn mpt mbg mwr mwk mlf men), (rf_RW ct 0 mw 958 f)] ++ ws))) (va_Qi (fun (r : Int32) (u : va_W × Int32 × (Nat → Int32)) => match u with | (u9, th1, f1) => ty_V ct S ph u9 ∧ rf_d (f 8) f f1 ∧ rf_R G cx f1 ∧ rf_sm f f1) (cmB D ([(rf_MO mo mw ma mf m0 m1 mu mv u0 u1 iz th mb mn mpt mbg mwr mwk mlf men), (rf_RW ct 0 mw 958 f)] ++ ws) sz (fun (u : va_W × Int32 × (Nat → Int32)) => match u with | (u9, th1, f1) => ([(rf_MO mo mw ma mf m0 m1 mu mv u0 u1 iz th1 mb mn mpt mbg mwr mwk mlf men), (rf_RW ct 0 mw 958 f1)] ++ u9))) (va_A ([(rf_MO mo mw ma mf m0 m1 mu mv u0 u1 iz th mb mn mpt mbg mwr mwk mlf men), (rf_RW ct 0 mw 958 f)] ++ ws) sz)) 0 0 (va_A ([(rf_MO mo mw ma mf m0 m1 mu mv u0 u1 iz th mb mn mpt mbg mwr mwk mlf men), (rf_RW ct 0 mw 958 f)] ++ ws) sz) := by
  refine Met.ofW (cc := cX11_setAmbient) (maxL := 3) (ret := (some .int)) (by decide) rfl ?_
  intro p e s m args below meth c s₁ B hml hv
  obtain ⟨rfl, hsz, hP, hK, hD0, hX⟩ := hv
  have hx := B.exec
  have hb := B.bytes
  have hr := B.returns
  have hts := ws_all (atoms_spec (ws := ws_ yX11_setAmbient cX11_setAmbient 3 (some .int)) B.pre)
  have hown : s.vm.findClass RX11 = some m.cls := findClass_of_methodNamed B.named
  have hlocks := B.notSynchronized
  subst hsz
  have hD := hD0.self (sz := s.heap.size)
  generalize hAe : va_A ([(rf_MO mo mw ma mf m0 m1 mu mv u0 u1 iz th mb mn mpt mbg mwr mwk mlf men), (rf_RW ct 0 mw 958 f)] ++ ws) s.heap.size = A at hD hX ⊢
  have hA : ∀ q : Nat, s.heap.size ≤ q → A q := fun q h => by rw [← hAe]; exact Or.inr h
  have hS : va_S A s.heap s.heap [] := va_S.rf
  have hl := lv_entry ([.ref mo, .int p1]) (n := 3) (Nat.le_of_ble_eq_true rfl)
  rw [lg_entry_eq]
  generalize (lg_sl ([.ref mo, .int p1]) ++ List.replicate (3 - (lg_sl ([.ref mo, .int p1])).length) Slot.unset).toArray = ls at hl ⊢
  have hl : lv_has ls 3 [(0, .ref mo), (1, .int p1)] := hl
  refine lv_aload_n hx hb dX11_setAmbient_0 rfl (lv_at hl 0 rfl) ?_
  refine lv_iconst (v := 0) hx hb dX11_setAmbient_1 (by decide) ?_
  refine va_put (v := .int 0) (ty := .int) (D := D) (ci := 11) (C := RX11) (T := TX11) (N := 19) hx hb hts in_X11 tyX11 tyX11_ok nmX11 hown hK hP hD hS 0 rfl rfl 10 (by decide) (hts _ kl_RX11_49) (fun _ h9 => h9) rfl (by decide +kernel) rfl rfl (Nat.le_of_ble_eq_true rfl) dX11_setAmbient_2 (fun H locs hP hD hS => ?_)
  have hP : va_P D vwCl ([(rf_MO mo mw ma mf m0 m1 mu mv u0 u1 iz (0) mb mn mpt mbg mwr mwk mlf men), (rf_RW ct 0 mw 958 f)] ++ ws) H := hP
  have hD : va_D A ([(rf_MO mo mw ma mf m0 m1 mu mv u0 u1 iz (0) mb mn mpt mbg mwr mwk mlf men), (rf_RW ct 0 mw 958 f)] ++ ws) := hD
  refine lv_aload_n hx hb dX11_setAmbient_5 rfl (lv_at hl 0 rfl) ?_
  refine lv_iload_n hx hb dX11_setAmbient_6 rfl (lv_at hl 1 rfl) ?_
  refine lv_i2l hx hb dX11_setAmbient_7 rfl ?_
  refine lv_lconst (v := 0) hx hb dX11_setAmbient_8 (by decide) ?_
  refine lv_ldc2 hx hb hown (hts _ kl_RX11_334) dX11_setAmbient_9 ?_
  refine ty_ki (wr := [(rf_MO mo mw ma mf m0 m1 mu mv u0 u1 iz (0) mb mn mpt mbg mwr mwk mlf men), (rf_RW ct 0 mw 958 f)]) (wc := ([] ++ ws)) (va_runS (As := [.long p1.toInt64, .long 0, .long 500]) (rest := [.ref mo]) ⟨hx, hb, hml, hown, hts⟩ (m_X11_in l D ct S ws ph xx p1.toInt64 (0 : Int64) (500 : Int64) _ hT hph hy1) (cm_S 3 hts kc_X11_in ki_RX11 kl_RX11_70 ks_X11_in kd_X11_in ⟨Nat.le_of_ble_eq_true rfl, Nat.le_of_ble_eq_true rfl⟩) (ty_preS (wr := [(rf_MO mo mw ma mf m0 m1 mu mv u0 u1 iz (0) mb mn mpt mbg mwr mwk mlf men), (rf_RW ct 0 mw 958 f)]) (wc := ([] ++ ws)) hP hK hD hS hA hX) rfl rfl hl.1 rfl (lv_room (Nat.le_of_ble_eq_true rfl)) dX11_setAmbient_12 ⟨Nat.le_of_ble_eq_true rfl, Nat.le_of_ble_eq_true rfl⟩) hP hD hS hA (fun r_1 u H locs hw_2 hP hD hS => ?_)
  obtain ⟨ws_3, rfl⟩ : ∃ z, z = u := ⟨_, rfl⟩
  obtain ⟨hT, rfl⟩ := hw_2
  have hP : va_P D vwCl ([(rf_MO mo mw ma mf m0 m1 mu mv u0 u1 iz (0) mb mn mpt mbg mwr mwk mlf men), (rf_RW ct 0 mw 958 f)] ++ ws_3) H := hP
  have hD : va_D A ([(rf_MO mo mw ma mf m0 m1 mu mv u0 u1 iz (0) mb mn mpt mbg mwr mwk mlf men), (rf_RW ct 0 mw 958 f)] ++ ws_3) := hD
  refine lv_if_ne (tgt := 22) hx hb dX11_setAmbient_15 (by decide) (fun hc_4 => ?_) (fun hc_4 => ?_)
  · refine lv_iconst (v := 0) hx hb dX11_setAmbient_22 (by decide) ?_
    refine lv_iconst (v := 1) hx hb dX11_setAmbient_23 (by decide) ?_
    have hP : va_P D vwCl ([(rf_RW ct 0 mw 958 f), (rf_MO mo mw ma mf m0 m1 mu mv u0 u1 iz (0) mb mn mpt mbg mwr mwk mlf men)] ++ ws_3) H := ty_permP hP (ty_ordp (E := [(rf_MO mo mw ma mf m0 m1 mu mv u0 u1 iz (0) mb mn mpt mbg mwr mwk mlf men), (rf_RW ct 0 mw 958 f)]) (E2 := [(rf_RW ct 0 mw 958 f), (rf_MO mo mw ma mf m0 m1 mu mv u0 u1 iz (0) mb mn mpt mbg mwr mwk mlf men)]) (n := 2) [1, 0] rfl rfl (by decide))
    have hD : va_D A ([(rf_RW ct 0 mw 958 f), (rf_MO mo mw ma mf m0 m1 mu mv u0 u1 iz (0) mb mn mpt mbg mwr mwk mlf men)] ++ ws_3) := ty_permD hD (ty_ordp (E := [(rf_MO mo mw ma mf m0 m1 mu mv u0 u1 iz (0) mb mn mpt mbg mwr mwk mlf men), (rf_RW ct 0 mw 958 f)]) (E2 := [(rf_RW ct 0 mw 958 f), (rf_MO mo mw ma mf m0 m1 mu mv u0 u1 iz (0) mb mn mpt mbg mwr mwk mlf men)]) (n := 2) [1, 0] rfl rfl (by decide))
    refine ty_ki (wr := [(rf_RW ct 0 mw 958 f)]) (wc := ([(rf_MO mo mw ma mf m0 m1 mu mv u0 u1 iz (0) mb mn mpt mbg mwr mwk mlf men)] ++ ws_3)) (va_runV (As := [.int 0, .int 1]) (rest := []) ⟨hx, hb, hml, hown, hts⟩ (m_X11_throwsIf l D ct S ws_3 ph xx mo mw ma mf m0 m1 mu mv u0 u1 iz mb (0 : Int32) mn mpt mbg mwr mwk mlf men (0 : Int32) (1 : Int32) _ hT h_mu h_mv h_u0 h_u1 hph hy1 (by decide)) (cm_V 2 hts kc_X11_throwsIf ki_RX11 kl_RX11_328 kv_X11_throwsIf kx_X11_throwsIf kd_X11_throwsIf ⟨Nat.le_of_ble_eq_true rfl, Nat.le_of_ble_eq_true rfl⟩) (ty_preE (wr := [(rf_RW ct 0 mw 958 f)]) (wc := ([(rf_MO mo mw ma mf m0 m1 mu mv u0 u1 iz (0) mb mn mpt mbg mwr mwk mlf men)] ++ ws_3)) (ci := 11) (q0 := 1) hP hK hD hS hA hX rfl rfl) rfl rfl hl.1 rfl (lv_room (Nat.le_of_ble_eq_true rfl)) dX11_setAmbient_24 ⟨Nat.le_of_ble_eq_true rfl, Nat.le_of_ble_eq_true rfl⟩) hP hD hS hA (fun r_5 u H locs hw_6 hP hD hS => ?_)
    obtain ⟨ws_7, th1_8⟩ := u
    obtain ⟨hT, hp_9⟩ := hw_6
    have hp_9 : ((r_5 = 0 ∧ (0 : Int32) = 0) ∨ r_5 = 1) := hp_9
    have hP : va_P D vwCl ([(rf_RW ct 0 mw 958 f), (rf_MO mo mw ma mf m0 m1 mu mv u0 u1 iz th1_8 mb mn mpt mbg mwr mwk mlf men)] ++ ws_7) H := hP
    have hD : va_D A ([(rf_RW ct 0 mw 958 f), (rf_MO mo mw ma mf m0 m1 mu mv u0 u1 iz th1_8 mb mn mpt mbg mwr mwk mlf men)] ++ ws_7) := hD
    rcases hp_9 with ⟨rfl, hz_10⟩ | rfl
    · refine lv_if_eq (tgt := 32) hx hb dX11_setAmbient_27 (by decide) (fun _ => ?_) (fun hc => absurd (by decide) hc)
      refine lv_aload_n hx hb dX11_setAmbient_32 rfl (lv_at hl 0 rfl) ?_
      refine va_get (v := .ref mw) (D := D) (ci := 11) (C := RX11) (T := TX11) (N := 19) hx hb hts in_X11 hown hK hP 1 rfl rfl 0 (by decide) (hts _ kl_RX11_9) (fun _ h9 => h9) rfl dX11_setAmbient_33 ?_
      refine lv_bipush (v := 7) hx hb dX11_setAmbient_36 (by decide) ?_
      refine va_iald hx hb hK hP 0 0 rfl rfl (cm_vin (by decide)) dX11_setAmbient_38 ?_
      refine cm_cst (y := (f 7)) (by first | rfl | decide +kernel) ?_
      refine lv_istore_n (lv' := [(2, .int (f 7)), (0, .ref mo), (1, .int p1)]) hx hb dX11_setAmbient_39 rfl hl (by decide) rfl (fun ls hl => ?_)
      refine lv_aload_n hx hb dX11_setAmbient_40 rfl (lv_at hl 1 rfl) ?_
      refine va_get (v := .ref mw) (D := D) (ci := 11) (C := RX11) (T := TX11) (N := 19) hx hb hts in_X11 hown hK hP 1 rfl rfl 0 (by decide) (hts _ kl_RX11_9) (fun _ h9 => h9) rfl dX11_setAmbient_41 ?_
      refine lv_bipush (v := 7) hx hb dX11_setAmbient_44 (by decide) ?_
      refine lv_iload_n hx hb dX11_setAmbient_46 rfl (lv_at hl 2 rfl) ?_
      refine va_iast hx hb hK hP hD hS 0 0 rfl rfl (cm_vin (by decide)) dX11_setAmbient_47 (fun H locs hP hD hS => ?_)
      have hP : va_P D vwCl ([(rf_RW ct 0 mw 958 (upd f (7 : Int32).toNatClampNeg p1)), (rf_MO mo mw ma mf m0 m1 mu mv u0 u1 iz th1_8 mb mn mpt mbg mwr mwk mlf men)] ++ ws_7) H := hP
      have hD : va_D A ([(rf_RW ct 0 mw 958 (upd f (7 : Int32).toNatClampNeg p1)), (rf_MO mo mw ma mf m0 m1 mu mv u0 u1 iz th1_8 mb mn mpt mbg mwr mwk mlf men)] ++ ws_7) := hD
      have hU_12 : rf_R G cx (upd f (7 : Int32).toNatClampNeg p1) ∧ rf_sm f (upd f (7 : Int32).toNatClampNeg p1) := (rf_free _ hR (Or.inl (by decide)))
      generalize hf_15 : (upd f (7 : Int32).toNatClampNeg p1) = f_11 at hP hD hU_12
      have hD_16 := rf_du (rf_dr f) hf_15 (by decide)
      have hR_13 := hU_12.1
      have hM_14 := rf_smt (rf_smr f) hU_12.2
      refine lv_iload_n hx hb dX11_setAmbient_48 rfl (lv_at hl 0 rfl) ?_
      have hP : va_P D vwCl ([(rf_MO mo mw ma mf m0 m1 mu mv u0 u1 iz th1_8 mb mn mpt mbg mwr mwk mlf men), (rf_RW ct 0 mw 958 f_11)] ++ ws_7) H := ty_permP hP (ty_ordp (E := [(rf_RW ct 0 mw 958 f_11), (rf_MO mo mw ma mf m0 m1 mu mv u0 u1 iz th1_8 mb mn mpt mbg mwr mwk mlf men)]) (E2 := [(rf_MO mo mw ma mf m0 m1 mu mv u0 u1 iz th1_8 mb mn mpt mbg mwr mwk mlf men), (rf_RW ct 0 mw 958 f_11)]) (n := 2) [1, 0] rfl rfl (by decide))
      have hD : va_D A ([(rf_MO mo mw ma mf m0 m1 mu mv u0 u1 iz th1_8 mb mn mpt mbg mwr mwk mlf men), (rf_RW ct 0 mw 958 f_11)] ++ ws_7) := ty_permD hD (ty_ordp (E := [(rf_RW ct 0 mw 958 f_11), (rf_MO mo mw ma mf m0 m1 mu mv u0 u1 iz th1_8 mb mn mpt mbg mwr mwk mlf men)]) (E2 := [(rf_MO mo mw ma mf m0 m1 mu mv u0 u1 iz th1_8 mb mn mpt mbg mwr mwk mlf men), (rf_RW ct 0 mw 958 f_11)]) (n := 2) [1, 0] rfl rfl (by decide))
      exact W.iret (v := (f 7)) hx hb hr (fun t ht hW => ⟨⟨(f 7), (ws_7, th1_8, f_11), rfl, ⟨hT, ⟨hD_16, hR_13, hM_14⟩⟩, by rw [ht]; exact hP, by rw [hAe]; exact hD⟩, hS.F ht⟩) hS.2.2 dX11_setAmbient_49
    · refine lv_if_eq (tgt := 32) hx hb dX11_setAmbient_27 (by decide) (fun hc => absurd hc (by decide)) (fun _ => ?_)
      refine lv_iconst (v := 0) hx hb dX11_setAmbient_30 (by decide) ?_
      have hP : va_P D vwCl ([(rf_MO mo mw ma mf m0 m1 mu mv u0 u1 iz th1_8 mb mn mpt mbg mwr mwk mlf men), (rf_RW ct 0 mw 958 f)] ++ ws_7) H := ty_permP hP (ty_ordp (E := [(rf_RW ct 0 mw 958 f), (rf_MO mo mw ma mf m0 m1 mu mv u0 u1 iz th1_8 mb mn mpt mbg mwr mwk mlf men)]) (E2 := [(rf_MO mo mw ma mf m0 m1 mu mv u0 u1 iz th1_8 mb mn mpt mbg mwr mwk mlf men), (rf_RW ct 0 mw 958 f)]) (n := 2) [1, 0] rfl rfl (by decide))
      have hD : va_D A ([(rf_MO mo mw ma mf m0 m1 mu mv u0 u1 iz th1_8 mb mn mpt mbg mwr mwk mlf men), (rf_RW ct 0 mw 958 f)] ++ ws_7) := ty_permD hD (ty_ordp (E := [(rf_RW ct 0 mw 958 f), (rf_MO mo mw ma mf m0 m1 mu mv u0 u1 iz th1_8 mb mn mpt mbg mwr mwk mlf men)]) (E2 := [(rf_MO mo mw ma mf m0 m1 mu mv u0 u1 iz th1_8 mb mn mpt mbg mwr mwk mlf men), (rf_RW ct 0 mw 958 f)]) (n := 2) [1, 0] rfl rfl (by decide))
      exact W.iret (v := 0) hx hb hr (fun t ht hW => ⟨⟨0, (ws_7, th1_8, f), rfl, ⟨hT, ⟨(rf_dr f), hR, (rf_smr f)⟩⟩, by rw [ht]; exact hP, by rw [hAe]; exact hD⟩, hS.F ht⟩) hS.2.2 dX11_setAmbient_31
  · refine lv_iconst (v := 1) hx hb dX11_setAmbient_18 (by decide) ?_
    refine lv_goto (tgt := 23) hx hb dX11_setAmbient_19 (by decide) ?_
    refine lv_iconst (v := 1) hx hb dX11_setAmbient_23 (by decide) ?_
    have hP : va_P D vwCl ([(rf_RW ct 0 mw 958 f), (rf_MO mo mw ma mf m0 m1 mu mv u0 u1 iz (0) mb mn mpt mbg mwr mwk mlf men)] ++ ws_3) H := ty_permP hP (ty_ordp (E := [(rf_MO mo mw ma mf m0 m1 mu mv u0 u1 iz (0) mb mn mpt mbg mwr mwk mlf men), (rf_RW ct 0 mw 958 f)]) (E2 := [(rf_RW ct 0 mw 958 f), (rf_MO mo mw ma mf m0 m1 mu mv u0 u1 iz (0) mb mn mpt mbg mwr mwk mlf men)]) (n := 2) [1, 0] rfl rfl (by decide))
    have hD : va_D A ([(rf_RW ct 0 mw 958 f), (rf_MO mo mw ma mf m0 m1 mu mv u0 u1 iz (0) mb mn mpt mbg mwr mwk mlf men)] ++ ws_3) := ty_permD hD (ty_ordp (E := [(rf_MO mo mw ma mf m0 m1 mu mv u0 u1 iz (0) mb mn mpt mbg mwr mwk mlf men), (rf_RW ct 0 mw 958 f)]) (E2 := [(rf_RW ct 0 mw 958 f), (rf_MO mo mw ma mf m0 m1 mu mv u0 u1 iz (0) mb mn mpt mbg mwr mwk mlf men)]) (n := 2) [1, 0] rfl rfl (by decide))
    refine ty_ki (wr := [(rf_RW ct 0 mw 958 f)]) (wc := ([(rf_MO mo mw ma mf m0 m1 mu mv u0 u1 iz (0) mb mn mpt mbg mwr mwk mlf men)] ++ ws_3)) (va_runV (As := [.int 1, .int 1]) (rest := []) ⟨hx, hb, hml, hown, hts⟩ (m_X11_throwsIf l D ct S ws_3 ph xx mo mw ma mf m0 m1 mu mv u0 u1 iz mb (0 : Int32) mn mpt mbg mwr mwk mlf men (1 : Int32) (1 : Int32) _ hT h_mu h_mv h_u0 h_u1 hph hy1 (by decide)) (cm_V 2 hts kc_X11_throwsIf ki_RX11 kl_RX11_328 kv_X11_throwsIf kx_X11_throwsIf kd_X11_throwsIf ⟨Nat.le_of_ble_eq_true rfl, Nat.le_of_ble_eq_true rfl⟩) (ty_preE (wr := [(rf_RW ct 0 mw 958 f)]) (wc := ([(rf_MO mo mw ma mf m0 m1 mu mv u0 u1 iz (0) mb mn mpt mbg mwr mwk mlf men)] ++ ws_3)) (ci := 11) (q0 := 1) hP hK hD hS hA hX rfl rfl) rfl rfl hl.1 rfl (lv_room (Nat.le_of_ble_eq_true rfl)) dX11_setAmbient_24 ⟨Nat.le_of_ble_eq_true rfl, Nat.le_of_ble_eq_true rfl⟩) hP hD hS hA (fun r_17 u H locs hw_18 hP hD hS => ?_)
    obtain ⟨ws_19, th1_20⟩ := u
    obtain ⟨hT, hp_21⟩ := hw_18
    have hp_21 : ((r_17 = 0 ∧ (1 : Int32) = 0) ∨ r_17 = 1) := hp_21
    have hP : va_P D vwCl ([(rf_RW ct 0 mw 958 f), (rf_MO mo mw ma mf m0 m1 mu mv u0 u1 iz th1_20 mb mn mpt mbg mwr mwk mlf men)] ++ ws_19) H := hP
    have hD : va_D A ([(rf_RW ct 0 mw 958 f), (rf_MO mo mw ma mf m0 m1 mu mv u0 u1 iz th1_20 mb mn mpt mbg mwr mwk mlf men)] ++ ws_19) := hD
    rcases hp_21 with ⟨rfl, hz_22⟩ | rfl
    · exact absurd hz_22 (by decide)
    · refine lv_if_eq (tgt := 32) hx hb dX11_setAmbient_27 (by decide) (fun hc => absurd hc (by decide)) (fun _ => ?_)
      refine lv_iconst (v := 0) hx hb dX11_setAmbient_30 (by decide) ?_
      have hP : va_P D vwCl ([(rf_MO mo mw ma mf m0 m1 mu mv u0 u1 iz th1_20 mb mn mpt mbg mwr mwk mlf men), (rf_RW ct 0 mw 958 f)] ++ ws_19) H := ty_permP hP (ty_ordp (E := [(rf_RW ct 0 mw 958 f), (rf_MO mo mw ma mf m0 m1 mu mv u0 u1 iz th1_20 mb mn mpt mbg mwr mwk mlf men)]) (E2 := [(rf_MO mo mw ma mf m0 m1 mu mv u0 u1 iz th1_20 mb mn mpt mbg mwr mwk mlf men), (rf_RW ct 0 mw 958 f)]) (n := 2) [1, 0] rfl rfl (by decide))
      have hD : va_D A ([(rf_MO mo mw ma mf m0 m1 mu mv u0 u1 iz th1_20 mb mn mpt mbg mwr mwk mlf men), (rf_RW ct 0 mw 958 f)] ++ ws_19) := ty_permD hD (ty_ordp (E := [(rf_RW ct 0 mw 958 f), (rf_MO mo mw ma mf m0 m1 mu mv u0 u1 iz th1_20 mb mn mpt mbg mwr mwk mlf men)]) (E2 := [(rf_MO mo mw ma mf m0 m1 mu mv u0 u1 iz th1_20 mb mn mpt mbg mwr mwk mlf men), (rf_RW ct 0 mw 958 f)]) (n := 2) [1, 0] rfl rfl (by decide))
      exact W.iret (v := 0) hx hb hr (fun t ht hW => ⟨⟨0, (ws_19, th1_20, f), rfl, ⟨hT, ⟨(rf_dr f), hR, (rf_smr f)⟩⟩, by rw [ht]; exact hP, by rw [hAe]; exact hD⟩, hS.F ht⟩) hS.2.2 dX11_setAmbient_31
theorem dX11_setDerate_0 : decode cX11_setDerate 0 = .ok (.aload_n 0, 1) := by decide +kernel
theorem dX11_setDerate_1 : decode cX11_setDerate 1 = .ok (.iconst 0, 1) := by decide +kernel
theorem dX11_setDerate_2 : decode cX11_setDerate 2 = .ok (.putfield 49, 3) := by decide +kernel
theorem dX11_setDerate_5 : decode cX11_setDerate 5 = .ok (.aload_n 0, 1) := by decide +kernel
theorem dX11_setDerate_6 : decode cX11_setDerate 6 = .ok (.iload_n 1, 1) := by decide +kernel
theorem dX11_setDerate_7 : decode cX11_setDerate 7 = .ok (.i2l, 1) := by decide +kernel
theorem dX11_setDerate_8 : decode cX11_setDerate 8 = .ok (.lconst 0, 1) := by decide +kernel
theorem dX11_setDerate_9 : decode cX11_setDerate 9 = .ok (.ldc2_w 336, 3) := by decide +kernel
theorem dX11_setDerate_12 : decode cX11_setDerate 12 = .ok (.invokestatic 70, 3) := by decide +kernel
theorem dX11_setDerate_15 : decode cX11_setDerate 15 = .ok (.ifCond .ne 7, 3) := by decide +kernel
theorem dX11_setDerate_18 : decode cX11_setDerate 18 = .ok (.iconst 1, 1) := by decide +kernel
theorem dX11_setDerate_19 : decode cX11_setDerate 19 = .ok (.goto 4, 3) := by decide +kernel
theorem dX11_setDerate_22 : decode cX11_setDerate 22 = .ok (.iconst 0, 1) := by decide +kernel
theorem dX11_setDerate_23 : decode cX11_setDerate 23 = .ok (.iconst 1, 1) := by decide +kernel
theorem dX11_setDerate_24 : decode cX11_setDerate 24 = .ok (.invokevirtual 328, 3) := by decide +kernel
theorem dX11_setDerate_27 : decode cX11_setDerate 27 = .ok (.ifCond .eq 5, 3) := by decide +kernel
theorem dX11_setDerate_30 : decode cX11_setDerate 30 = .ok (.iconst 0, 1) := by decide +kernel
theorem dX11_setDerate_31 : decode cX11_setDerate 31 = .ok (.ireturn, 1) := by decide +kernel
theorem dX11_setDerate_32 : decode cX11_setDerate 32 = .ok (.aload_n 0, 1) := by decide +kernel
theorem dX11_setDerate_33 : decode cX11_setDerate 33 = .ok (.getfield 9, 3) := by decide +kernel
theorem dX11_setDerate_36 : decode cX11_setDerate 36 = .ok (.bipush 16, 2) := by decide +kernel
theorem dX11_setDerate_38 : decode cX11_setDerate 38 = .ok (.iaload, 1) := by decide +kernel
theorem dX11_setDerate_39 : decode cX11_setDerate 39 = .ok (.istore_n 2, 1) := by decide +kernel
theorem dX11_setDerate_40 : decode cX11_setDerate 40 = .ok (.aload_n 0, 1) := by decide +kernel
theorem dX11_setDerate_41 : decode cX11_setDerate 41 = .ok (.getfield 9, 3) := by decide +kernel
theorem dX11_setDerate_44 : decode cX11_setDerate 44 = .ok (.bipush 16, 2) := by decide +kernel
theorem dX11_setDerate_46 : decode cX11_setDerate 46 = .ok (.iload_n 1, 1) := by decide +kernel
theorem dX11_setDerate_47 : decode cX11_setDerate 47 = .ok (.iastore, 1) := by decide +kernel
theorem dX11_setDerate_48 : decode cX11_setDerate 48 = .ok (.iload_n 2, 1) := by decide +kernel
theorem dX11_setDerate_49 : decode cX11_setDerate 49 = .ok (.ireturn, 1) := by decide +kernel
set_option maxRecDepth 100000 in
set_option maxHeartbeats 4000000 in
theorem m_X11_setDerate (l : Launch) (D : va_G) (ct : Nat → ClassId) (S : ty_S) (ws : va_W) (ph : va_W → Prop) (xx : Nat → Nat → Nat → Prop) (mo : Nat) (mw : Nat) (ma : Nat) (mf : Nat) (m0 : Nat) (m1 : Nat) (mu : Nat) (mv : Nat) (u0 : Nat) (u1 : Nat) (iz : Nat) (mb : Nat) (th : Int32) (mn : Int32) (mpt : Int32) (mbg : Int32) (mwr : Int32) (mwk : Int32) (mlf : Int32) (men : Int32) (f : Nat → Int32) (G : Nat → Int32) (cx : Int) (p1 : Int32) (sz : Nat) (hT : ty_V ct S ph ws) (h_mu : S mu = some (.inr (1, 42))) (h_mv : S mv = some (.inr (1, 42))) (h_u0 : S u0 = some (.inr (1, 42))) (h_u1 : S u1 = some (.inr (1, 42))) (hph : ty_C ph xx) (hy1 : ty_y1 xx) (hR : rf_R G cx f) : Met l yX11_setDerate (ws_ yX11_setDerate cX11_setDerate 3 (some .int)) ({ frames := 1, cells := 0, slots := 0, locals := 25 } : Room) (va_Pc [.ref mo, .int p1] (cmP D ct sz ([(rf_MO mo mw ma mf m0 m1 mu mv u0 u1 iz th mb mn mpt mbg mwr mwk mlf men), (rf_RW ct 0 mw 958 f)] ++ ws))) (va_Qi (fun (r : Int32) (u : va_W × Int32 × (Nat → Int32)) => match u with | (u9, th1, f1) => ty_V ct S ph u9 ∧ rf_d (f 8) f f1 ∧ rf_R G cx f1 ∧ rf_sm f f1) (cmB D ([(rf_MO mo mw ma mf m0 m1 mu mv u0 u1 iz th mb mn mpt mbg mwr mwk mlf men), (rf_RW ct 0 mw 958 f)] ++ ws) sz (fun (u : va_W × Int32 × (Nat → Int32)) => match u with | (u9, th1, f1) => ([(rf_MO mo mw ma mf m0 m1 mu mv u0 u1 iz th1 mb mn mpt mbg mwr mwk mlf men), (rf_RW ct 0 mw 958 f1)] ++ u9))) (va_A ([(rf_MO mo mw ma mf m0 m1 mu mv u0 u1 iz th mb mn mpt mbg mwr mwk mlf men), (rf_RW ct 0 mw 958 f)] ++ ws) sz)) 0 0 (va_A ([(rf_MO mo mw ma mf m0 m1 mu mv u0 u1 iz th mb mn mpt mbg mwr mwk mlf men), (rf_RW ct 0 mw 958 f)] ++ ws) sz) := by
  refine Met.ofW (cc := cX11_setDerate) (maxL := 3) (ret := (some .int)) (by decide) rfl ?_
  intro p e s m args below meth c s₁ B hml hv
  obtain ⟨rfl, hsz, hP, hK, hD0, hX⟩ := hv
  have hx := B.exec
  have hb := B.bytes
  have hr := B.returns
  have hts := ws_all (atoms_spec (ws := ws_ yX11_setDerate cX11_setDerate 3 (some .int)) B.pre)
  have hown : s.vm.findClass RX11 = some m.cls := findClass_of_methodNamed B.named
  have hlocks := B.notSynchronized
  subst hsz
  have hD := hD0.self (sz := s.heap.size)
  generalize hAe : va_A ([(rf_MO mo mw ma mf m0 m1 mu mv u0 u1 iz th mb mn mpt mbg mwr mwk mlf men), (rf_RW ct 0 mw 958 f)] ++ ws) s.heap.size = A at hD hX ⊢
  have hA : ∀ q : Nat, s.heap.size ≤ q → A q := fun q h => by rw [← hAe]; exact Or.inr h
  have hS : va_S A s.heap s.heap [] := va_S.rf
  have hl := lv_entry ([.ref mo, .int p1]) (n := 3) (Nat.le_of_ble_eq_true rfl)
  rw [lg_entry_eq]
  generalize (lg_sl ([.ref mo, .int p1]) ++ List.replicate (3 - (lg_sl ([.ref mo, .int p1])).length) Slot.unset).toArray = ls at hl ⊢
  have hl : lv_has ls 3 [(0, .ref mo), (1, .int p1)] := hl
  refine lv_aload_n hx hb dX11_setDerate_0 rfl (lv_at hl 0 rfl) ?_
  refine lv_iconst (v := 0) hx hb dX11_setDerate_1 (by decide) ?_
  refine va_put (v := .int 0) (ty := .int) (D := D) (ci := 11) (C := RX11) (T := TX11) (N := 19) hx hb hts in_X11 tyX11 tyX11_ok nmX11 hown hK hP hD hS 0 rfl rfl 10 (by decide) (hts _ kl_RX11_49) (fun _ h9 => h9) rfl (by decide +kernel) rfl rfl (Nat.le_of_ble_eq_true rfl) dX11_setDerate_2 (fun H locs hP hD hS => ?_)
  have hP : va_P D vwCl ([(rf_MO mo mw ma mf m0 m1 mu mv u0 u1 iz (0) mb mn mpt mbg mwr mwk mlf men), (rf_RW ct 0 mw 958 f)] ++ ws) H := hP
  have hD : va_D A ([(rf_MO mo mw ma mf m0 m1 mu mv u0 u1 iz (0) mb mn mpt mbg mwr mwk mlf men), (rf_RW ct 0 mw 958 f)] ++ ws) := hD
  refine lv_aload_n hx hb dX11_setDerate_5 rfl (lv_at hl 0 rfl) ?_
  refine lv_iload_n hx hb dX11_setDerate_6 rfl (lv_at hl 1 rfl) ?_
  refine lv_i2l hx hb dX11_setDerate_7 rfl ?_
  refine lv_lconst (v := 0) hx hb dX11_setDerate_8 (by decide) ?_
  refine lv_ldc2 hx hb hown (hts _ kl_RX11_336) dX11_setDerate_9 ?_
  refine ty_ki (wr := [(rf_MO mo mw ma mf m0 m1 mu mv u0 u1 iz (0) mb mn mpt mbg mwr mwk mlf men), (rf_RW ct 0 mw 958 f)]) (wc := ([] ++ ws)) (va_runS (As := [.long p1.toInt64, .long 0, .long 200]) (rest := [.ref mo]) ⟨hx, hb, hml, hown, hts⟩ (m_X11_in l D ct S ws ph xx p1.toInt64 (0 : Int64) (200 : Int64) _ hT hph hy1) (cm_S 3 hts kc_X11_in ki_RX11 kl_RX11_70 ks_X11_in kd_X11_in ⟨Nat.le_of_ble_eq_true rfl, Nat.le_of_ble_eq_true rfl⟩) (ty_preS (wr := [(rf_MO mo mw ma mf m0 m1 mu mv u0 u1 iz (0) mb mn mpt mbg mwr mwk mlf men), (rf_RW ct 0 mw 958 f)]) (wc := ([] ++ ws)) hP hK hD hS hA hX) rfl rfl hl.1 rfl (lv_room (Nat.le_of_ble_eq_true rfl)) dX11_setDerate_12 ⟨Nat.le_of_ble_eq_true rfl, Nat.le_of_ble_eq_true rfl⟩) hP hD hS hA (fun r_1 u H locs hw_2 hP hD hS => ?_)
  obtain ⟨ws_3, rfl⟩ : ∃ z, z = u := ⟨_, rfl⟩
  obtain ⟨hT, rfl⟩ := hw_2
  have hP : va_P D vwCl ([(rf_MO mo mw ma mf m0 m1 mu mv u0 u1 iz (0) mb mn mpt mbg mwr mwk mlf men), (rf_RW ct 0 mw 958 f)] ++ ws_3) H := hP
  have hD : va_D A ([(rf_MO mo mw ma mf m0 m1 mu mv u0 u1 iz (0) mb mn mpt mbg mwr mwk mlf men), (rf_RW ct 0 mw 958 f)] ++ ws_3) := hD
  refine lv_if_ne (tgt := 22) hx hb dX11_setDerate_15 (by decide) (fun hc_4 => ?_) (fun hc_4 => ?_)
  · refine lv_iconst (v := 0) hx hb dX11_setDerate_22 (by decide) ?_
    refine lv_iconst (v := 1) hx hb dX11_setDerate_23 (by decide) ?_
    have hP : va_P D vwCl ([(rf_RW ct 0 mw 958 f), (rf_MO mo mw ma mf m0 m1 mu mv u0 u1 iz (0) mb mn mpt mbg mwr mwk mlf men)] ++ ws_3) H := ty_permP hP (ty_ordp (E := [(rf_MO mo mw ma mf m0 m1 mu mv u0 u1 iz (0) mb mn mpt mbg mwr mwk mlf men), (rf_RW ct 0 mw 958 f)]) (E2 := [(rf_RW ct 0 mw 958 f), (rf_MO mo mw ma mf m0 m1 mu mv u0 u1 iz (0) mb mn mpt mbg mwr mwk mlf men)]) (n := 2) [1, 0] rfl rfl (by decide))
    have hD : va_D A ([(rf_RW ct 0 mw 958 f), (rf_MO mo mw ma mf m0 m1 mu mv u0 u1 iz (0) mb mn mpt mbg mwr mwk mlf men)] ++ ws_3) := ty_permD hD (ty_ordp (E := [(rf_MO mo mw ma mf m0 m1 mu mv u0 u1 iz (0) mb mn mpt mbg mwr mwk mlf men), (rf_RW ct 0 mw 958 f)]) (E2 := [(rf_RW ct 0 mw 958 f), (rf_MO mo mw ma mf m0 m1 mu mv u0 u1 iz (0) mb mn mpt mbg mwr mwk mlf men)]) (n := 2) [1, 0] rfl rfl (by decide))
    refine ty_ki (wr := [(rf_RW ct 0 mw 958 f)]) (wc := ([(rf_MO mo mw ma mf m0 m1 mu mv u0 u1 iz (0) mb mn mpt mbg mwr mwk mlf men)] ++ ws_3)) (va_runV (As := [.int 0, .int 1]) (rest := []) ⟨hx, hb, hml, hown, hts⟩ (m_X11_throwsIf l D ct S ws_3 ph xx mo mw ma mf m0 m1 mu mv u0 u1 iz mb (0 : Int32) mn mpt mbg mwr mwk mlf men (0 : Int32) (1 : Int32) _ hT h_mu h_mv h_u0 h_u1 hph hy1 (by decide)) (cm_V 2 hts kc_X11_throwsIf ki_RX11 kl_RX11_328 kv_X11_throwsIf kx_X11_throwsIf kd_X11_throwsIf ⟨Nat.le_of_ble_eq_true rfl, Nat.le_of_ble_eq_true rfl⟩) (ty_preE (wr := [(rf_RW ct 0 mw 958 f)]) (wc := ([(rf_MO mo mw ma mf m0 m1 mu mv u0 u1 iz (0) mb mn mpt mbg mwr mwk mlf men)] ++ ws_3)) (ci := 11) (q0 := 1) hP hK hD hS hA hX rfl rfl) rfl rfl hl.1 rfl (lv_room (Nat.le_of_ble_eq_true rfl)) dX11_setDerate_24 ⟨Nat.le_of_ble_eq_true rfl, Nat.le_of_ble_eq_true rfl⟩) hP hD hS hA (fun r_5 u H locs hw_6 hP hD hS => ?_)
    obtain ⟨ws_7, th1_8⟩ := u
    obtain ⟨hT, hp_9⟩ := hw_6
    have hp_9 : ((r_5 = 0 ∧ (0 : Int32) = 0) ∨ r_5 = 1) := hp_9
    have hP : va_P D vwCl ([(rf_RW ct 0 mw 958 f), (rf_MO mo mw ma mf m0 m1 mu mv u0 u1 iz th1_8 mb mn mpt mbg mwr mwk mlf men)] ++ ws_7) H := hP
    have hD : va_D A ([(rf_RW ct 0 mw 958 f), (rf_MO mo mw ma mf m0 m1 mu mv u0 u1 iz th1_8 mb mn mpt mbg mwr mwk mlf men)] ++ ws_7) := hD
    rcases hp_9 with ⟨rfl, hz_10⟩ | rfl
    · refine lv_if_eq (tgt := 32) hx hb dX11_setDerate_27 (by decide) (fun _ => ?_) (fun hc => absurd (by decide) hc)
      refine lv_aload_n hx hb dX11_setDerate_32 rfl (lv_at hl 0 rfl) ?_
      refine va_get (v := .ref mw) (D := D) (ci := 11) (C := RX11) (T := TX11) (N := 19) hx hb hts in_X11 hown hK hP 1 rfl rfl 0 (by decide) (hts _ kl_RX11_9) (fun _ h9 => h9) rfl dX11_setDerate_33 ?_
      refine lv_bipush (v := 16) hx hb dX11_setDerate_36 (by decide) ?_
      refine va_iald hx hb hK hP 0 0 rfl rfl (cm_vin (by decide)) dX11_setDerate_38 ?_
      refine cm_cst (y := (f 16)) (by first | rfl | decide +kernel) ?_
      refine lv_istore_n (lv' := [(2, .int (f 16)), (0, .ref mo), (1, .int p1)]) hx hb dX11_setDerate_39 rfl hl (by decide) rfl (fun ls hl => ?_)
      refine lv_aload_n hx hb dX11_setDerate_40 rfl (lv_at hl 1 rfl) ?_
      refine va_get (v := .ref mw) (D := D) (ci := 11) (C := RX11) (T := TX11) (N := 19) hx hb hts in_X11 hown hK hP 1 rfl rfl 0 (by decide) (hts _ kl_RX11_9) (fun _ h9 => h9) rfl dX11_setDerate_41 ?_
      refine lv_bipush (v := 16) hx hb dX11_setDerate_44 (by decide) ?_
      refine lv_iload_n hx hb dX11_setDerate_46 rfl (lv_at hl 2 rfl) ?_
      refine va_iast hx hb hK hP hD hS 0 0 rfl rfl (cm_vin (by decide)) dX11_setDerate_47 (fun H locs hP hD hS => ?_)
      have hP : va_P D vwCl ([(rf_RW ct 0 mw 958 (upd f (16 : Int32).toNatClampNeg p1)), (rf_MO mo mw ma mf m0 m1 mu mv u0 u1 iz th1_8 mb mn mpt mbg mwr mwk mlf men)] ++ ws_7) H := hP
      have hD : va_D A ([(rf_RW ct 0 mw 958 (upd f (16 : Int32).toNatClampNeg p1)), (rf_MO mo mw ma mf m0 m1 mu mv u0 u1 iz th1_8 mb mn mpt mbg mwr mwk mlf men)] ++ ws_7) := hD
      have hU_12 : rf_R G cx (upd f (16 : Int32).toNatClampNeg p1) ∧ rf_sm f (upd f (16 : Int32).toNatClampNeg p1) := (rf_num _ hR (Or.inr (Or.inl ⟨by decide, (rf_rngc (L := 0) (U := 200) (by decide) (by decide) hc_4)⟩)))
      generalize hf_15 : (upd f (16 : Int32).toNatClampNeg p1) = f_11 at hP hD hU_12
      have hD_16 := rf_du (rf_dr f) hf_15 (by decide)
      have hR_13 := hU_12.1
      have hM_14 := rf_smt (rf_smr f) hU_12.2
      refine lv_iload_n hx hb dX11_setDerate_48 rfl (lv_at hl 0 rfl) ?_
      have hP : va_P D vwCl ([(rf_MO mo mw ma mf m0 m1 mu mv u0 u1 iz th1_8 mb mn mpt mbg mwr mwk mlf men), (rf_RW ct 0 mw 958 f_11)] ++ ws_7) H := ty_permP hP (ty_ordp (E := [(rf_RW ct 0 mw 958 f_11), (rf_MO mo mw ma mf m0 m1 mu mv u0 u1 iz th1_8 mb mn mpt mbg mwr mwk mlf men)]) (E2 := [(rf_MO mo mw ma mf m0 m1 mu mv u0 u1 iz th1_8 mb mn mpt mbg mwr mwk mlf men), (rf_RW ct 0 mw 958 f_11)]) (n := 2) [1, 0] rfl rfl (by decide))
      have hD : va_D A ([(rf_MO mo mw ma mf m0 m1 mu mv u0 u1 iz th1_8 mb mn mpt mbg mwr mwk mlf men), (rf_RW ct 0 mw 958 f_11)] ++ ws_7) := ty_permD hD (ty_ordp (E := [(rf_RW ct 0 mw 958 f_11), (rf_MO mo mw ma mf m0 m1 mu mv u0 u1 iz th1_8 mb mn mpt mbg mwr mwk mlf men)]) (E2 := [(rf_MO mo mw ma mf m0 m1 mu mv u0 u1 iz th1_8 mb mn mpt mbg mwr mwk mlf men), (rf_RW ct 0 mw 958 f_11)]) (n := 2) [1, 0] rfl rfl (by decide))
      exact W.iret (v := (f 16)) hx hb hr (fun t ht hW => ⟨⟨(f 16), (ws_7, th1_8, f_11), rfl, ⟨hT, ⟨hD_16, hR_13, hM_14⟩⟩, by rw [ht]; exact hP, by rw [hAe]; exact hD⟩, hS.F ht⟩) hS.2.2 dX11_setDerate_49
    · refine lv_if_eq (tgt := 32) hx hb dX11_setDerate_27 (by decide) (fun hc => absurd hc (by decide)) (fun _ => ?_)
      refine lv_iconst (v := 0) hx hb dX11_setDerate_30 (by decide) ?_
      have hP : va_P D vwCl ([(rf_MO mo mw ma mf m0 m1 mu mv u0 u1 iz th1_8 mb mn mpt mbg mwr mwk mlf men), (rf_RW ct 0 mw 958 f)] ++ ws_7) H := ty_permP hP (ty_ordp (E := [(rf_RW ct 0 mw 958 f), (rf_MO mo mw ma mf m0 m1 mu mv u0 u1 iz th1_8 mb mn mpt mbg mwr mwk mlf men)]) (E2 := [(rf_MO mo mw ma mf m0 m1 mu mv u0 u1 iz th1_8 mb mn mpt mbg mwr mwk mlf men), (rf_RW ct 0 mw 958 f)]) (n := 2) [1, 0] rfl rfl (by decide))
      have hD : va_D A ([(rf_MO mo mw ma mf m0 m1 mu mv u0 u1 iz th1_8 mb mn mpt mbg mwr mwk mlf men), (rf_RW ct 0 mw 958 f)] ++ ws_7) := ty_permD hD (ty_ordp (E := [(rf_RW ct 0 mw 958 f), (rf_MO mo mw ma mf m0 m1 mu mv u0 u1 iz th1_8 mb mn mpt mbg mwr mwk mlf men)]) (E2 := [(rf_MO mo mw ma mf m0 m1 mu mv u0 u1 iz th1_8 mb mn mpt mbg mwr mwk mlf men), (rf_RW ct 0 mw 958 f)]) (n := 2) [1, 0] rfl rfl (by decide))
      exact W.iret (v := 0) hx hb hr (fun t ht hW => ⟨⟨0, (ws_7, th1_8, f), rfl, ⟨hT, ⟨(rf_dr f), hR, (rf_smr f)⟩⟩, by rw [ht]; exact hP, by rw [hAe]; exact hD⟩, hS.F ht⟩) hS.2.2 dX11_setDerate_31
  · refine lv_iconst (v := 1) hx hb dX11_setDerate_18 (by decide) ?_
    refine lv_goto (tgt := 23) hx hb dX11_setDerate_19 (by decide) ?_
    refine lv_iconst (v := 1) hx hb dX11_setDerate_23 (by decide) ?_
    have hP : va_P D vwCl ([(rf_RW ct 0 mw 958 f), (rf_MO mo mw ma mf m0 m1 mu mv u0 u1 iz (0) mb mn mpt mbg mwr mwk mlf men)] ++ ws_3) H := ty_permP hP (ty_ordp (E := [(rf_MO mo mw ma mf m0 m1 mu mv u0 u1 iz (0) mb mn mpt mbg mwr mwk mlf men), (rf_RW ct 0 mw 958 f)]) (E2 := [(rf_RW ct 0 mw 958 f), (rf_MO mo mw ma mf m0 m1 mu mv u0 u1 iz (0) mb mn mpt mbg mwr mwk mlf men)]) (n := 2) [1, 0] rfl rfl (by decide))
    have hD : va_D A ([(rf_RW ct 0 mw 958 f), (rf_MO mo mw ma mf m0 m1 mu mv u0 u1 iz (0) mb mn mpt mbg mwr mwk mlf men)] ++ ws_3) := ty_permD hD (ty_ordp (E := [(rf_MO mo mw ma mf m0 m1 mu mv u0 u1 iz (0) mb mn mpt mbg mwr mwk mlf men), (rf_RW ct 0 mw 958 f)]) (E2 := [(rf_RW ct 0 mw 958 f), (rf_MO mo mw ma mf m0 m1 mu mv u0 u1 iz (0) mb mn mpt mbg mwr mwk mlf men)]) (n := 2) [1, 0] rfl rfl (by decide))
    refine ty_ki (wr := [(rf_RW ct 0 mw 958 f)]) (wc := ([(rf_MO mo mw ma mf m0 m1 mu mv u0 u1 iz (0) mb mn mpt mbg mwr mwk mlf men)] ++ ws_3)) (va_runV (As := [.int 1, .int 1]) (rest := []) ⟨hx, hb, hml, hown, hts⟩ (m_X11_throwsIf l D ct S ws_3 ph xx mo mw ma mf m0 m1 mu mv u0 u1 iz mb (0 : Int32) mn mpt mbg mwr mwk mlf men (1 : Int32) (1 : Int32) _ hT h_mu h_mv h_u0 h_u1 hph hy1 (by decide)) (cm_V 2 hts kc_X11_throwsIf ki_RX11 kl_RX11_328 kv_X11_throwsIf kx_X11_throwsIf kd_X11_throwsIf ⟨Nat.le_of_ble_eq_true rfl, Nat.le_of_ble_eq_true rfl⟩) (ty_preE (wr := [(rf_RW ct 0 mw 958 f)]) (wc := ([(rf_MO mo mw ma mf m0 m1 mu mv u0 u1 iz (0) mb mn mpt mbg mwr mwk mlf men)] ++ ws_3)) (ci := 11) (q0 := 1) hP hK hD hS hA hX rfl rfl) rfl rfl hl.1 rfl (lv_room (Nat.le_of_ble_eq_true rfl)) dX11_setDerate_24 ⟨Nat.le_of_ble_eq_true rfl, Nat.le_of_ble_eq_true rfl⟩) hP hD hS hA (fun r_17 u H locs hw_18 hP hD hS => ?_)
    obtain ⟨ws_19, th1_20⟩ := u
    obtain ⟨hT, hp_21⟩ := hw_18
    have hp_21 : ((r_17 = 0 ∧ (1 : Int32) = 0) ∨ r_17 = 1) := hp_21
    have hP : va_P D vwCl ([(rf_RW ct 0 mw 958 f), (rf_MO mo mw ma mf m0 m1 mu mv u0 u1 iz th1_20 mb mn mpt mbg mwr mwk mlf men)] ++ ws_19) H := hP
    have hD : va_D A ([(rf_RW ct 0 mw 958 f), (rf_MO mo mw ma mf m0 m1 mu mv u0 u1 iz th1_20 mb mn mpt mbg mwr mwk mlf men)] ++ ws_19) := hD
    rcases hp_21 with ⟨rfl, hz_22⟩ | rfl
    · exact absurd hz_22 (by decide)
    · refine lv_if_eq (tgt := 32) hx hb dX11_setDerate_27 (by decide) (fun hc => absurd hc (by decide)) (fun _ => ?_)
      refine lv_iconst (v := 0) hx hb dX11_setDerate_30 (by decide) ?_
      have hP : va_P D vwCl ([(rf_MO mo mw ma mf m0 m1 mu mv u0 u1 iz th1_20 mb mn mpt mbg mwr mwk mlf men), (rf_RW ct 0 mw 958 f)] ++ ws_19) H := ty_permP hP (ty_ordp (E := [(rf_RW ct 0 mw 958 f), (rf_MO mo mw ma mf m0 m1 mu mv u0 u1 iz th1_20 mb mn mpt mbg mwr mwk mlf men)]) (E2 := [(rf_MO mo mw ma mf m0 m1 mu mv u0 u1 iz th1_20 mb mn mpt mbg mwr mwk mlf men), (rf_RW ct 0 mw 958 f)]) (n := 2) [1, 0] rfl rfl (by decide))
      have hD : va_D A ([(rf_MO mo mw ma mf m0 m1 mu mv u0 u1 iz th1_20 mb mn mpt mbg mwr mwk mlf men), (rf_RW ct 0 mw 958 f)] ++ ws_19) := ty_permD hD (ty_ordp (E := [(rf_RW ct 0 mw 958 f), (rf_MO mo mw ma mf m0 m1 mu mv u0 u1 iz th1_20 mb mn mpt mbg mwr mwk mlf men)]) (E2 := [(rf_MO mo mw ma mf m0 m1 mu mv u0 u1 iz th1_20 mb mn mpt mbg mwr mwk mlf men), (rf_RW ct 0 mw 958 f)]) (n := 2) [1, 0] rfl rfl (by decide))
      exact W.iret (v := 0) hx hb hr (fun t ht hW => ⟨⟨0, (ws_19, th1_20, f), rfl, ⟨hT, ⟨(rf_dr f), hR, (rf_smr f)⟩⟩, by rw [ht]; exact hP, by rw [hAe]; exact hD⟩, hS.F ht⟩) hS.2.2 dX11_setDerate_31
theorem dX11_setLimits_0 : decode cX11_setLimits 0 = .ok (.aload_n 0, 1) := by decide +kernel
theorem dX11_setLimits_1 : decode cX11_setLimits 1 = .ok (.iconst 0, 1) := by decide +kernel
theorem dX11_setLimits_2 : decode cX11_setLimits 2 = .ok (.putfield 49, 3) := by decide +kernel
theorem dX11_setLimits_5 : decode cX11_setLimits 5 = .ok (.aload_n 0, 1) := by decide +kernel
theorem dX11_setLimits_6 : decode cX11_setLimits 6 = .ok (.iload_n 1, 1) := by decide +kernel
theorem dX11_setLimits_7 : decode cX11_setLimits 7 = .ok (.i2l, 1) := by decide +kernel
theorem dX11_setLimits_8 : decode cX11_setLimits 8 = .ok (.lconst 0, 1) := by decide +kernel
theorem dX11_setLimits_9 : decode cX11_setLimits 9 = .ok (.ldc2_w 338, 3) := by decide +kernel
theorem dX11_setLimits_12 : decode cX11_setLimits 12 = .ok (.invokestatic 70, 3) := by decide +kernel
theorem dX11_setLimits_15 : decode cX11_setLimits 15 = .ok (.ifCond .eq 16, 3) := by decide +kernel
theorem dX11_setLimits_18 : decode cX11_setLimits 18 = .ok (.iload_n 2, 1) := by decide +kernel
theorem dX11_setLimits_19 : decode cX11_setLimits 19 = .ok (.i2l, 1) := by decide +kernel
theorem dX11_setLimits_20 : decode cX11_setLimits 20 = .ok (.iload_n 1, 1) := by decide +kernel
theorem dX11_setLimits_21 : decode cX11_setLimits 21 = .ok (.i2l, 1) := by decide +kernel
theorem dX11_setLimits_22 : decode cX11_setLimits 22 = .ok (.ldc2_w 338, 3) := by decide +kernel
theorem dX11_setLimits_25 : decode cX11_setLimits 25 = .ok (.invokestatic 70, 3) := by decide +kernel
theorem dX11_setLimits_28 : decode cX11_setLimits 28 = .ok (.ifCond .ne 7, 3) := by decide +kernel
theorem dX11_setLimits_31 : decode cX11_setLimits 31 = .ok (.iconst 1, 1) := by decide +kernel
theorem dX11_setLimits_32 : decode cX11_setLimits 32 = .ok (.goto 4, 3) := by decide +kernel
theorem dX11_setLimits_35 : decode cX11_setLimits 35 = .ok (.iconst 0, 1) := by decide +kernel
theorem dX11_setLimits_36 : decode cX11_setLimits 36 = .ok (.iconst 1, 1) := by decide +kernel
theorem dX11_setLimits_37 : decode cX11_setLimits 37 = .ok (.invokevirtual 328, 3) := by decide +kernel
theorem dX11_setLimits_40 : decode cX11_setLimits 40 = .ok (.ifCond .eq 5, 3) := by decide +kernel
theorem dX11_setLimits_43 : decode cX11_setLimits 43 = .ok (.iconst 0, 1) := by decide +kernel
theorem dX11_setLimits_44 : decode cX11_setLimits 44 = .ok (.ireturn, 1) := by decide +kernel
theorem dX11_setLimits_45 : decode cX11_setLimits 45 = .ok (.aload_n 0, 1) := by decide +kernel
theorem dX11_setLimits_46 : decode cX11_setLimits 46 = .ok (.getfield 9, 3) := by decide +kernel
theorem dX11_setLimits_49 : decode cX11_setLimits 49 = .ok (.iconst 4, 1) := by decide +kernel
theorem dX11_setLimits_50 : decode cX11_setLimits 50 = .ok (.iload_n 1, 1) := by decide +kernel
theorem dX11_setLimits_51 : decode cX11_setLimits 51 = .ok (.iastore, 1) := by decide +kernel
theorem dX11_setLimits_52 : decode cX11_setLimits 52 = .ok (.aload_n 0, 1) := by decide +kernel
theorem dX11_setLimits_53 : decode cX11_setLimits 53 = .ok (.getfield 9, 3) := by decide +kernel
theorem dX11_setLimits_56 : decode cX11_setLimits 56 = .ok (.iconst 5, 1) := by decide +kernel
theorem dX11_setLimits_57 : decode cX11_setLimits 57 = .ok (.iload_n 2, 1) := by decide +kernel
theorem dX11_setLimits_58 : decode cX11_setLimits 58 = .ok (.iastore, 1) := by decide +kernel
theorem dX11_setLimits_59 : decode cX11_setLimits 59 = .ok (.iconst 0, 1) := by decide +kernel
theorem dX11_setLimits_60 : decode cX11_setLimits 60 = .ok (.istore_n 3, 1) := by decide +kernel
theorem dX11_setLimits_61 : decode cX11_setLimits 61 = .ok (.iconst 0, 1) := by decide +kernel
theorem dX11_setLimits_62 : decode cX11_setLimits 62 = .ok (.istore 4, 2) := by decide +kernel
theorem dX11_setLimits_64 : decode cX11_setLimits 64 = .ok (.iload 4, 2) := by decide +kernel
theorem dX11_setLimits_66 : decode cX11_setLimits 66 = .ok (.aload_n 0, 1) := by decide +kernel
theorem dX11_setLimits_67 : decode cX11_setLimits 67 = .ok (.getfield 9, 3) := by decide +kernel
theorem dX11_setLimits_70 : decode cX11_setLimits 70 = .ok (.bipush 9, 2) := by decide +kernel
theorem dX11_setLimits_72 : decode cX11_setLimits 72 = .ok (.iaload, 1) := by decide +kernel
theorem dX11_setLimits_73 : decode cX11_setLimits 73 = .ok (.if_icmp .ge 46, 3) := by decide +kernel
theorem dX11_setLimits_76 : decode cX11_setLimits 76 = .ok (.iload_n 3, 1) := by decide +kernel
theorem dX11_setLimits_77 : decode cX11_setLimits 77 = .ok (.aload_n 0, 1) := by decide +kernel
theorem dX11_setLimits_78 : decode cX11_setLimits 78 = .ok (.iload 4, 2) := by decide +kernel
theorem dX11_setLimits_80 : decode cX11_setLimits 80 = .ok (.iconst 0, 1) := by decide +kernel
theorem dX11_setLimits_81 : decode cX11_setLimits 81 = .ok (.invokevirtual 209, 3) := by decide +kernel
theorem dX11_setLimits_84 : decode cX11_setLimits 84 = .ok (.iconst 1, 1) := by decide +kernel
theorem dX11_setLimits_85 : decode cX11_setLimits 85 = .ok (.if_icmp .ne 25, 3) := by decide +kernel
theorem dX11_setLimits_88 : decode cX11_setLimits 88 = .ok (.aload_n 0, 1) := by decide +kernel
theorem dX11_setLimits_89 : decode cX11_setLimits 89 = .ok (.iload 4, 2) := by decide +kernel
theorem dX11_setLimits_91 : decode cX11_setLimits 91 = .ok (.iconst 5, 1) := by decide +kernel
theorem dX11_setLimits_92 : decode cX11_setLimits 92 = .ok (.invokevirtual 209, 3) := by decide +kernel
theorem dX11_setLimits_95 : decode cX11_setLimits 95 = .ok (.i2l, 1) := by decide +kernel
theorem dX11_setLimits_96 : decode cX11_setLimits 96 = .ok (.iload_n 1, 1) := by decide +kernel
theorem dX11_setLimits_97 : decode cX11_setLimits 97 = .ok (.i2l, 1) := by decide +kernel
theorem dX11_setLimits_98 : decode cX11_setLimits 98 = .ok (.iload_n 2, 1) := by decide +kernel
theorem dX11_setLimits_99 : decode cX11_setLimits 99 = .ok (.i2l, 1) := by decide +kernel
theorem dX11_setLimits_100 : decode cX11_setLimits 100 = .ok (.invokestatic 70, 3) := by decide +kernel
theorem dX11_setLimits_103 : decode cX11_setLimits 103 = .ok (.ifCond .ne 7, 3) := by decide +kernel
theorem dX11_setLimits_106 : decode cX11_setLimits 106 = .ok (.iconst 1, 1) := by decide +kernel
theorem dX11_setLimits_107 : decode cX11_setLimits 107 = .ok (.goto 4, 3) := by decide +kernel
theorem dX11_setLimits_110 : decode cX11_setLimits 110 = .ok (.iconst 0, 1) := by decide +kernel
theorem dX11_setLimits_111 : decode cX11_setLimits 111 = .ok (.iadd, 1) := by decide +kernel
theorem dX11_setLimits_112 : decode cX11_setLimits 112 = .ok (.istore_n 3, 1) := by decide +kernel
theorem dX11_setLimits_113 : decode cX11_setLimits 113 = .ok (.iinc 4 1, 3) := by decide +kernel
theorem dX11_setLimits_116 : decode cX11_setLimits 116 = .ok (.goto (-52), 3) := by decide +kernel
theorem dX11_setLimits_119 : decode cX11_setLimits 119 = .ok (.iload_n 3, 1) := by decide +kernel
theorem dX11_setLimits_120 : decode cX11_setLimits 120 = .ok (.ireturn, 1) := by decide +kernel
set_option maxRecDepth 100000 in
set_option maxHeartbeats 4000000 in
theorem m_X11_setLimits (l : Launch) (D : va_G) (ct : Nat → ClassId) (S : ty_S) (ws : va_W) (ph : va_W → Prop) (xx : Nat → Nat → Nat → Prop) (mo : Nat) (mw : Nat) (ma : Nat) (mf : Nat) (m0 : Nat) (m1 : Nat) (mu : Nat) (mv : Nat) (u0 : Nat) (u1 : Nat) (iz : Nat) (mb : Nat) (th : Int32) (mn : Int32) (mpt : Int32) (mbg : Int32) (mwr : Int32) (mwk : Int32) (mlf : Int32) (men : Int32) (f : Nat → Int32) (G : Nat → Int32) (cx : Int) (p1 : Int32) (p2 : Int32) (sz : Nat) (hT : ty_V ct S ph ws) (h_mu : S mu = some (.inr (1, 42))) (h_mv : S mv = some (.inr (1, 42))) (h_u0 : S u0 = some (.inr (1, 42))) (h_u1 : S u1 = some (.inr (1, 42))) (hph : ty_C ph xx) (hy1 : ty_y1 xx) (hR : rf_R G cx f) : Met l yX11_setLimits (ws_ yX11_setLimits cX11_setLimits 5 (some .int)) ({ frames := 1, cells := 0, slots := 0, locals := 25 } : Room) (va_Pc [.ref mo, .int p1, .int p2] (cmP D ct sz ([(rf_MO mo mw ma mf m0 m1 mu mv u0 u1 iz th mb mn mpt mbg mwr mwk mlf men), (rf_RW ct 0 mw 958 f)] ++ ws))) (va_Qi (fun (r : Int32) (u : va_W × Int32 × (Nat → Int32)) => match u with | (u9, th1, f1) => ty_V ct S ph u9 ∧ rf_d (f 8) f f1 ∧ rf_R G cx f1 ∧ rf_sm f f1) (cmB D ([(rf_MO mo mw ma mf m0 m1 mu mv u0 u1 iz th mb mn mpt mbg mwr mwk mlf men), (rf_RW ct 0 mw 958 f)] ++ ws) sz (fun (u : va_W × Int32 × (Nat → Int32)) => match u with | (u9, th1, f1) => ([(rf_MO mo mw ma mf m0 m1 mu mv u0 u1 iz th1 mb mn mpt mbg mwr mwk mlf men), (rf_RW ct 0 mw 958 f1)] ++ u9))) (va_A ([(rf_MO mo mw ma mf m0 m1 mu mv u0 u1 iz th mb mn mpt mbg mwr mwk mlf men), (rf_RW ct 0 mw 958 f)] ++ ws) sz)) 0 0 (va_A ([(rf_MO mo mw ma mf m0 m1 mu mv u0 u1 iz th mb mn mpt mbg mwr mwk mlf men), (rf_RW ct 0 mw 958 f)] ++ ws) sz) := by
  refine Met.ofW (cc := cX11_setLimits) (maxL := 5) (ret := (some .int)) (by decide) rfl ?_
  intro p e s m args below meth c s₁ B hml hv
  obtain ⟨rfl, hsz, hP, hK, hD0, hX⟩ := hv
  have hx := B.exec
  have hb := B.bytes
  have hr := B.returns
  have hts := ws_all (atoms_spec (ws := ws_ yX11_setLimits cX11_setLimits 5 (some .int)) B.pre)
  have hown : s.vm.findClass RX11 = some m.cls := findClass_of_methodNamed B.named
  have hlocks := B.notSynchronized
  subst hsz
  have hD := hD0.self (sz := s.heap.size)
  generalize hAe : va_A ([(rf_MO mo mw ma mf m0 m1 mu mv u0 u1 iz th mb mn mpt mbg mwr mwk mlf men), (rf_RW ct 0 mw 958 f)] ++ ws) s.heap.size = A at hD hX ⊢
  have hA : ∀ q : Nat, s.heap.size ≤ q → A q := fun q h => by rw [← hAe]; exact Or.inr h
  have hS : va_S A s.heap s.heap [] := va_S.rf
  have hl := lv_entry ([.ref mo, .int p1, .int p2]) (n := 5) (Nat.le_of_ble_eq_true rfl)
  rw [lg_entry_eq]
  generalize (lg_sl ([.ref mo, .int p1, .int p2]) ++ List.replicate (5 - (lg_sl ([.ref mo, .int p1, .int p2])).length) Slot.unset).toArray = ls at hl ⊢
  have hl : lv_has ls 5 [(0, .ref mo), (1, .int p1), (2, .int p2)] := hl
  refine lv_aload_n hx hb dX11_setLimits_0 rfl (lv_at hl 0 rfl) ?_
  refine lv_iconst (v := 0) hx hb dX11_setLimits_1 (by decide) ?_
  refine va_put (v := .int 0) (ty := .int) (D := D) (ci := 11) (C := RX11) (T := TX11) (N := 19) hx hb hts in_X11 tyX11 tyX11_ok nmX11 hown hK hP hD hS 0 rfl rfl 10 (by decide) (hts _ kl_RX11_49) (fun _ h9 => h9) rfl (by decide +kernel) rfl rfl (Nat.le_of_ble_eq_true rfl) dX11_setLimits_2 (fun H locs hP hD hS => ?_)
  have hP : va_P D vwCl ([(rf_MO mo mw ma mf m0 m1 mu mv u0 u1 iz (0) mb mn mpt mbg mwr mwk mlf men), (rf_RW ct 0 mw 958 f)] ++ ws) H := hP
  have hD : va_D A ([(rf_MO mo mw ma mf m0 m1 mu mv u0 u1 iz (0) mb mn mpt mbg mwr mwk mlf men), (rf_RW ct 0 mw 958 f)] ++ ws) := hD
  refine lv_aload_n hx hb dX11_setLimits_5 rfl (lv_at hl 0 rfl) ?_
  refine lv_iload_n hx hb dX11_setLimits_6 rfl (lv_at hl 1 rfl) ?_
  refine lv_i2l hx hb dX11_setLimits_7 rfl ?_
  refine lv_lconst (v := 0) hx hb dX11_setLimits_8 (by decide) ?_
  refine lv_ldc2 hx hb hown (hts _ kl_RX11_338) dX11_setLimits_9 ?_
  refine ty_ki (wr := [(rf_MO mo mw ma mf m0 m1 mu mv u0 u1 iz (0) mb mn mpt mbg mwr mwk mlf men), (rf_RW ct 0 mw 958 f)]) (wc := ([] ++ ws)) (va_runS (As := [.long p1.toInt64, .long 0, .long 5000]) (rest := [.ref mo]) ⟨hx, hb, hml, hown, hts⟩ (m_X11_in l D ct S ws ph xx p1.toInt64 (0 : Int64) (5000 : Int64) _ hT hph hy1) (cm_S 3 hts kc_X11_in ki_RX11 kl_RX11_70 ks_X11_in kd_X11_in ⟨Nat.le_of_ble_eq_true rfl, Nat.le_of_ble_eq_true rfl⟩) (ty_preS (wr := [(rf_MO mo mw ma mf m0 m1 mu mv u0 u1 iz (0) mb mn mpt mbg mwr mwk mlf men), (rf_RW ct 0 mw 958 f)]) (wc := ([] ++ ws)) hP hK hD hS hA hX) rfl rfl hl.1 rfl (lv_room (Nat.le_of_ble_eq_true rfl)) dX11_setLimits_12 ⟨Nat.le_of_ble_eq_true rfl, Nat.le_of_ble_eq_true rfl⟩) hP hD hS hA (fun r_1 u H locs hw_2 hP hD hS => ?_)
  obtain ⟨ws_3, rfl⟩ : ∃ z, z = u := ⟨_, rfl⟩
  obtain ⟨hT, rfl⟩ := hw_2
  have hP : va_P D vwCl ([(rf_MO mo mw ma mf m0 m1 mu mv u0 u1 iz (0) mb mn mpt mbg mwr mwk mlf men), (rf_RW ct 0 mw 958 f)] ++ ws_3) H := hP
  have hD : va_D A ([(rf_MO mo mw ma mf m0 m1 mu mv u0 u1 iz (0) mb mn mpt mbg mwr mwk mlf men), (rf_RW ct 0 mw 958 f)] ++ ws_3) := hD
  refine lv_if_eq (tgt := 31) hx hb dX11_setLimits_15 (by decide) (fun hc_4 => ?_) (fun hc_4 => ?_)
  · refine lv_iconst (v := 1) hx hb dX11_setLimits_31 (by decide) ?_
    refine lv_goto (tgt := 36) hx hb dX11_setLimits_32 (by decide) ?_
    refine lv_iconst (v := 1) hx hb dX11_setLimits_36 (by decide) ?_
    have hP : va_P D vwCl ([(rf_RW ct 0 mw 958 f), (rf_MO mo mw ma mf m0 m1 mu mv u0 u1 iz (0) mb mn mpt mbg mwr mwk mlf men)] ++ ws_3) H := ty_permP hP (ty_ordp (E := [(rf_MO mo mw ma mf m0 m1 mu mv u0 u1 iz (0) mb mn mpt mbg mwr mwk mlf men), (rf_RW ct 0 mw 958 f)]) (E2 := [(rf_RW ct 0 mw 958 f), (rf_MO mo mw ma mf m0 m1 mu mv u0 u1 iz (0) mb mn mpt mbg mwr mwk mlf men)]) (n := 2) [1, 0] rfl rfl (by decide))
    have hD : va_D A ([(rf_RW ct 0 mw 958 f), (rf_MO mo mw ma mf m0 m1 mu mv u0 u1 iz (0) mb mn mpt mbg mwr mwk mlf men)] ++ ws_3) := ty_permD hD (ty_ordp (E := [(rf_MO mo mw ma mf m0 m1 mu mv u0 u1 iz (0) mb mn mpt mbg mwr mwk mlf men), (rf_RW ct 0 mw 958 f)]) (E2 := [(rf_RW ct 0 mw 958 f), (rf_MO mo mw ma mf m0 m1 mu mv u0 u1 iz (0) mb mn mpt mbg mwr mwk mlf men)]) (n := 2) [1, 0] rfl rfl (by decide))
    refine ty_ki (wr := [(rf_RW ct 0 mw 958 f)]) (wc := ([(rf_MO mo mw ma mf m0 m1 mu mv u0 u1 iz (0) mb mn mpt mbg mwr mwk mlf men)] ++ ws_3)) (va_runV (As := [.int 1, .int 1]) (rest := []) ⟨hx, hb, hml, hown, hts⟩ (m_X11_throwsIf l D ct S ws_3 ph xx mo mw ma mf m0 m1 mu mv u0 u1 iz mb (0 : Int32) mn mpt mbg mwr mwk mlf men (1 : Int32) (1 : Int32) _ hT h_mu h_mv h_u0 h_u1 hph hy1 (by decide)) (cm_V 2 hts kc_X11_throwsIf ki_RX11 kl_RX11_328 kv_X11_throwsIf kx_X11_throwsIf kd_X11_throwsIf ⟨Nat.le_of_ble_eq_true rfl, Nat.le_of_ble_eq_true rfl⟩) (ty_preE (wr := [(rf_RW ct 0 mw 958 f)]) (wc := ([(rf_MO mo mw ma mf m0 m1 mu mv u0 u1 iz (0) mb mn mpt mbg mwr mwk mlf men)] ++ ws_3)) (ci := 11) (q0 := 1) hP hK hD hS hA hX rfl rfl) rfl rfl hl.1 rfl (lv_room (Nat.le_of_ble_eq_true rfl)) dX11_setLimits_37 ⟨Nat.le_of_ble_eq_true rfl, Nat.le_of_ble_eq_true rfl⟩) hP hD hS hA (fun r_5 u H locs hw_6 hP hD hS => ?_)
    obtain ⟨ws_7, th1_8⟩ := u
    obtain ⟨hT, hp_9⟩ := hw_6
    have hp_9 : ((r_5 = 0 ∧ (1 : Int32) = 0) ∨ r_5 = 1) := hp_9
    have hP : va_P D vwCl ([(rf_RW ct 0 mw 958 f), (rf_MO mo mw ma mf m0 m1 mu mv u0 u1 iz th1_8 mb mn mpt mbg mwr mwk mlf men)] ++ ws_7) H := hP
    have hD : va_D A ([(rf_RW ct 0 mw 958 f), (rf_MO mo mw ma mf m0 m1 mu mv u0 u1 iz th1_8 mb mn mpt mbg mwr mwk mlf men)] ++ ws_7) := hD
    rcases hp_9 with ⟨rfl, hz_10⟩ | rfl
    · exact absurd hz_10 (by decide)
    · refine lv_if_eq (tgt := 45) hx hb dX11_setLimits_40 (by decide) (fun hc => absurd hc (by decide)) (fun _ => ?_)
      refine lv_iconst (v := 0) hx hb dX11_setLimits_43 (by decide) ?_
      have hP : va_P D vwCl ([(rf_MO mo mw ma mf m0 m1 mu mv u0 u1 iz th1_8 mb mn mpt mbg mwr mwk mlf men), (rf_RW ct 0 mw 958 f)] ++ ws_7) H := ty_permP hP (ty_ordp (E := [(rf_RW ct 0 mw 958 f), (rf_MO mo mw ma mf m0 m1 mu mv u0 u1 iz th1_8 mb mn mpt mbg mwr mwk mlf men)]) (E2 := [(rf_MO mo mw ma mf m0 m1 mu mv u0 u1 iz th1_8 mb mn mpt mbg mwr mwk mlf men), (rf_RW ct 0 mw 958 f)]) (n := 2) [1, 0] rfl rfl (by decide))
      have hD : va_D A ([(rf_MO mo mw ma mf m0 m1 mu mv u0 u1 iz th1_8 mb mn mpt mbg mwr mwk mlf men), (rf_RW ct 0 mw 958 f)] ++ ws_7) := ty_permD hD (ty_ordp (E := [(rf_RW ct 0 mw 958 f), (rf_MO mo mw ma mf m0 m1 mu mv u0 u1 iz th1_8 mb mn mpt mbg mwr mwk mlf men)]) (E2 := [(rf_MO mo mw ma mf m0 m1 mu mv u0 u1 iz th1_8 mb mn mpt mbg mwr mwk mlf men), (rf_RW ct 0 mw 958 f)]) (n := 2) [1, 0] rfl rfl (by decide))
      exact W.iret (v := 0) hx hb hr (fun t ht hW => ⟨⟨0, (ws_7, th1_8, f), rfl, ⟨hT, ⟨(rf_dr f), hR, (rf_smr f)⟩⟩, by rw [ht]; exact hP, by rw [hAe]; exact hD⟩, hS.F ht⟩) hS.2.2 dX11_setLimits_44
  · refine lv_iload_n hx hb dX11_setLimits_18 rfl (lv_at hl 2 rfl) ?_
    refine lv_i2l hx hb dX11_setLimits_19 rfl ?_
    refine lv_iload_n hx hb dX11_setLimits_20 rfl (lv_at hl 1 rfl) ?_
    refine lv_i2l hx hb dX11_setLimits_21 rfl ?_
    refine lv_ldc2 hx hb hown (hts _ kl_RX11_338) dX11_setLimits_22 ?_
    refine ty_ki (wr := [(rf_MO mo mw ma mf m0 m1 mu mv u0 u1 iz (0) mb mn mpt mbg mwr mwk mlf men), (rf_RW ct 0 mw 958 f)]) (wc := ([] ++ ws_3)) (va_runS (As := [.long p2.toInt64, .long p1.toInt64, .long 5000]) (rest := [.ref mo]) ⟨hx, hb, hml, hown, hts⟩ (m_X11_in l D ct S ws_3 ph xx p2.toInt64 p1.toInt64 (5000 : Int64) _ hT hph hy1) (cm_S 3 hts kc_X11_in ki_RX11 kl_RX11_70 ks_X11_in kd_X11_in ⟨Nat.le_of_ble_eq_true rfl, Nat.le_of_ble_eq_true rfl⟩) (ty_preS (wr := [(rf_MO mo mw ma mf m0 m1 mu mv u0 u1 iz (0) mb mn mpt mbg mwr mwk mlf men), (rf_RW ct 0 mw 958 f)]) (wc := ([] ++ ws_3)) hP hK hD hS hA hX) rfl rfl hl.1 rfl (lv_room (Nat.le_of_ble_eq_true rfl)) dX11_setLimits_25 ⟨Nat.le_of_ble_eq_true rfl, Nat.le_of_ble_eq_true rfl⟩) hP hD hS hA (fun r_11 u H locs hw_12 hP hD hS => ?_)
    obtain ⟨ws_13, rfl⟩ : ∃ z, z = u := ⟨_, rfl⟩
    obtain ⟨hT, rfl⟩ := hw_12
    have hP : va_P D vwCl ([(rf_MO mo mw ma mf m0 m1 mu mv u0 u1 iz (0) mb mn mpt mbg mwr mwk mlf men), (rf_RW ct 0 mw 958 f)] ++ ws_13) H := hP
    have hD : va_D A ([(rf_MO mo mw ma mf m0 m1 mu mv u0 u1 iz (0) mb mn mpt mbg mwr mwk mlf men), (rf_RW ct 0 mw 958 f)] ++ ws_13) := hD
    refine lv_if_ne (tgt := 35) hx hb dX11_setLimits_28 (by decide) (fun hc_14 => ?_) (fun hc_14 => ?_)
    · refine lv_iconst (v := 0) hx hb dX11_setLimits_35 (by decide) ?_
      refine lv_iconst (v := 1) hx hb dX11_setLimits_36 (by decide) ?_
      have hP : va_P D vwCl ([(rf_RW ct 0 mw 958 f), (rf_MO mo mw ma mf m0 m1 mu mv u0 u1 iz (0) mb mn mpt mbg mwr mwk mlf men)] ++ ws_13) H := ty_permP hP (ty_ordp (E := [(rf_MO mo mw ma mf m0 m1 mu mv u0 u1 iz (0) mb mn mpt mbg mwr mwk mlf men), (rf_RW ct 0 mw 958 f)]) (E2 := [(rf_RW ct 0 mw 958 f), (rf_MO mo mw ma mf m0 m1 mu mv u0 u1 iz (0) mb mn mpt mbg mwr mwk mlf men)]) (n := 2) [1, 0] rfl rfl (by decide))
      have hD : va_D A ([(rf_RW ct 0 mw 958 f), (rf_MO mo mw ma mf m0 m1 mu mv u0 u1 iz (0) mb mn mpt mbg mwr mwk mlf men)] ++ ws_13) := ty_permD hD (ty_ordp (E := [(rf_MO mo mw ma mf m0 m1 mu mv u0 u1 iz (0) mb mn mpt mbg mwr mwk mlf men), (rf_RW ct 0 mw 958 f)]) (E2 := [(rf_RW ct 0 mw 958 f), (rf_MO mo mw ma mf m0 m1 mu mv u0 u1 iz (0) mb mn mpt mbg mwr mwk mlf men)]) (n := 2) [1, 0] rfl rfl (by decide))
      refine ty_ki (wr := [(rf_RW ct 0 mw 958 f)]) (wc := ([(rf_MO mo mw ma mf m0 m1 mu mv u0 u1 iz (0) mb mn mpt mbg mwr mwk mlf men)] ++ ws_13)) (va_runV (As := [.int 0, .int 1]) (rest := []) ⟨hx, hb, hml, hown, hts⟩ (m_X11_throwsIf l D ct S ws_13 ph xx mo mw ma mf m0 m1 mu mv u0 u1 iz mb (0 : Int32) mn mpt mbg mwr mwk mlf men (0 : Int32) (1 : Int32) _ hT h_mu h_mv h_u0 h_u1 hph hy1 (by decide)) (cm_V 2 hts kc_X11_throwsIf ki_RX11 kl_RX11_328 kv_X11_throwsIf kx_X11_throwsIf kd_X11_throwsIf ⟨Nat.le_of_ble_eq_true rfl, Nat.le_of_ble_eq_true rfl⟩) (ty_preE (wr := [(rf_RW ct 0 mw 958 f)]) (wc := ([(rf_MO mo mw ma mf m0 m1 mu mv u0 u1 iz (0) mb mn mpt mbg mwr mwk mlf men)] ++ ws_13)) (ci := 11) (q0 := 1) hP hK hD hS hA hX rfl rfl) rfl rfl hl.1 rfl (lv_room (Nat.le_of_ble_eq_true rfl)) dX11_setLimits_37 ⟨Nat.le_of_ble_eq_true rfl, Nat.le_of_ble_eq_true rfl⟩) hP hD hS hA (fun r_15 u H locs hw_16 hP hD hS => ?_)
      obtain ⟨ws_17, th1_18⟩ := u
      obtain ⟨hT, hp_19⟩ := hw_16
      have hp_19 : ((r_15 = 0 ∧ (0 : Int32) = 0) ∨ r_15 = 1) := hp_19
      have hP : va_P D vwCl ([(rf_RW ct 0 mw 958 f), (rf_MO mo mw ma mf m0 m1 mu mv u0 u1 iz th1_18 mb mn mpt mbg mwr mwk mlf men)] ++ ws_17) H := hP
      have hD : va_D A ([(rf_RW ct 0 mw 958 f), (rf_MO mo mw ma mf m0 m1 mu mv u0 u1 iz th1_18 mb mn mpt mbg mwr mwk mlf men)] ++ ws_17) := hD
      rcases hp_19 with ⟨rfl, hz_20⟩ | rfl
      · refine lv_if_eq (tgt := 45) hx hb dX11_setLimits_40 (by decide) (fun _ => ?_) (fun hc => absurd (by decide) hc)
        refine lv_aload_n hx hb dX11_setLimits_45 rfl (lv_at hl 0 rfl) ?_
        refine va_get (v := .ref mw) (D := D) (ci := 11) (C := RX11) (T := TX11) (N := 19) hx hb hts in_X11 hown hK hP 1 rfl rfl 0 (by decide) (hts _ kl_RX11_9) (fun _ h9 => h9) rfl dX11_setLimits_46 ?_
        refine lv_iconst (v := 4) hx hb dX11_setLimits_49 (by decide) ?_
        refine lv_iload_n hx hb dX11_setLimits_50 rfl (lv_at hl 1 rfl) ?_
        refine va_iast hx hb hK hP hD hS 0 0 rfl rfl (cm_vin (by decide)) dX11_setLimits_51 (fun H locs hP hD hS => ?_)
        have hP : va_P D vwCl ([(rf_RW ct 0 mw 958 (upd f (4 : Int32).toNatClampNeg p1)), (rf_MO mo mw ma mf m0 m1 mu mv u0 u1 iz th1_18 mb mn mpt mbg mwr mwk mlf men)] ++ ws_17) H := hP
        have hD : va_D A ([(rf_RW ct 0 mw 958 (upd f (4 : Int32).toNatClampNeg p1)), (rf_MO mo mw ma mf m0 m1 mu mv u0 u1 iz th1_18 mb mn mpt mbg mwr mwk mlf men)] ++ ws_17) := hD
        have hU_22 : rf_R G cx (upd f (4 : Int32).toNatClampNeg p1) ∧ rf_sm f (upd f (4 : Int32).toNatClampNeg p1) := (rf_free _ hR (Or.inl (by decide)))
        generalize hf_25 : (upd f (4 : Int32).toNatClampNeg p1) = f_21 at hP hD hU_22
        have hD_26 := rf_du (rf_dr f) hf_25 (by decide)
        have hR_23 := hU_22.1
        have hM_24 := rf_smt (rf_smr f) hU_22.2
        refine lv_aload_n hx hb dX11_setLimits_52 rfl (lv_at hl 0 rfl) ?_
        refine va_get (v := .ref mw) (D := D) (ci := 11) (C := RX11) (T := TX11) (N := 19) hx hb hts in_X11 hown hK hP 1 rfl rfl 0 (by decide) (hts _ kl_RX11_9) (fun _ h9 => h9) rfl dX11_setLimits_53 ?_
        refine lv_iconst (v := 5) hx hb dX11_setLimits_56 (by decide) ?_
        refine lv_iload_n hx hb dX11_setLimits_57 rfl (lv_at hl 2 rfl) ?_
        refine va_iast hx hb hK hP hD hS 0 0 rfl rfl (cm_vin (by decide)) dX11_setLimits_58 (fun H locs hP hD hS => ?_)
        have hP : va_P D vwCl ([(rf_RW ct 0 mw 958 (upd f_21 (5 : Int32).toNatClampNeg p2)), (rf_MO mo mw ma mf m0 m1 mu mv u0 u1 iz th1_18 mb mn mpt mbg mwr mwk mlf men)] ++ ws_17) H := hP
        have hD : va_D A ([(rf_RW ct 0 mw 958 (upd f_21 (5 : Int32).toNatClampNeg p2)), (rf_MO mo mw ma mf m0 m1 mu mv u0 u1 iz th1_18 mb mn mpt mbg mwr mwk mlf men)] ++ ws_17) := hD
        have hU_28 : rf_R G cx (upd f_21 (5 : Int32).toNatClampNeg p2) ∧ rf_sm f_21 (upd f_21 (5 : Int32).toNatClampNeg p2) := (rf_free _ hR_23 (Or.inl (by decide)))
        generalize hf_31 : (upd f_21 (5 : Int32).toNatClampNeg p2) = f_27 at hP hD hU_28
        have hD_32 := rf_du hD_26 hf_31 (by decide)
        have hR_29 := hU_28.1
        have hM_30 := rf_smt hM_24 hU_28.2
        refine lv_iconst (v := 0) hx hb dX11_setLimits_59 (by decide) ?_
        refine lv_istore_n (lv' := [(3, .int 0), (0, .ref mo), (1, .int p1), (2, .int p2)]) hx hb dX11_setLimits_60 rfl hl (by decide) rfl (fun ls hl => ?_)
        refine lv_iconst (v := 0) hx hb dX11_setLimits_61 (by decide) ?_
        refine lv_istore (lv' := [(4, .int 0), (3, .int 0), (0, .ref mo), (1, .int p1), (2, .int p2)]) hx hb dX11_setLimits_62 hl (by decide) rfl (fun ls hl => ?_)
        refine ty_loop (I := fun μ H locs ls => ∃ (ws : va_W) (y_33 : Int32) (y_34 : Int32), μ = (2147483648 - y_34.toInt).toNat ∧ ty_V ct S ph ws ∧ va_P D vwCl ([(rf_RW ct 0 mw 958 f_27), (rf_MO mo mw ma mf m0 m1 mu mv u0 u1 iz th1_18 mb mn mpt mbg mwr mwk mlf men)] ++ ws) H ∧ va_D A ([(rf_RW ct 0 mw 958 f_27), (rf_MO mo mw ma mf m0 m1 mu mv u0 u1 iz th1_18 mb mn mpt mbg mwr mwk mlf men)] ++ ws) ∧ va_S A s.heap H locs ∧ lv_has ls 5 [(0, .ref mo), (1, .int p1), (2, .int p2), (3, .int y_33), (4, .int y_34)] ∧ 0 ≤ y_34.toInt) ⟨_, ws_17, (0 : Int32), (0 : Int32), rfl, hT, hP, hD, hS, (lv_sub hl [2, 3, 4, 1, 0] rfl), (by decide)⟩ (fun μ H locs ls hI ih_64 => ?_)
        obtain ⟨ws, y_33, y_34, rfl, hT, hP, hD, hS, hl, hex_64⟩ := hI
        refine lv_iload hx hb dX11_setLimits_64 (lv_at hl 4 rfl) ?_
        refine lv_aload_n hx hb dX11_setLimits_66 rfl (lv_at hl 0 rfl) ?_
        refine va_get (v := .ref mw) (D := D) (ci := 11) (C := RX11) (T := TX11) (N := 19) hx hb hts in_X11 hown hK hP 1 rfl rfl 0 (by decide) (hts _ kl_RX11_9) (fun _ h9 => h9) rfl dX11_setLimits_67 ?_
        refine lv_bipush (v := 9) hx hb dX11_setLimits_70 (by decide) ?_
        refine va_iald hx hb hK hP 0 0 rfl rfl (cm_vin (by decide)) dX11_setLimits_72 ?_
        refine cm_cst (y := (f_27 9)) (by first | rfl | decide +kernel) ?_
        refine lv_icmp_ge (tgt := 119) hx hb dX11_setLimits_73 (by decide) (fun hc_35 => ?_) (fun hc_35 => ?_)
        · refine lv_iload_n hx hb dX11_setLimits_119 rfl (lv_at hl 3 rfl) ?_
          have hP : va_P D vwCl ([(rf_MO mo mw ma mf m0 m1 mu mv u0 u1 iz th1_18 mb mn mpt mbg mwr mwk mlf men), (rf_RW ct 0 mw 958 f_27)] ++ ws) H := ty_permP hP (ty_ordp (E := [(rf_RW ct 0 mw 958 f_27), (rf_MO mo mw ma mf m0 m1 mu mv u0 u1 iz th1_18 mb mn mpt mbg mwr mwk mlf men)]) (E2 := [(rf_MO mo mw ma mf m0 m1 mu mv u0 u1 iz th1_18 mb mn mpt mbg mwr mwk mlf men), (rf_RW ct 0 mw 958 f_27)]) (n := 2) [1, 0] rfl rfl (by decide))
          have hD : va_D A ([(rf_MO mo mw ma mf m0 m1 mu mv u0 u1 iz th1_18 mb mn mpt mbg mwr mwk mlf men), (rf_RW ct 0 mw 958 f_27)] ++ ws) := ty_permD hD (ty_ordp (E := [(rf_RW ct 0 mw 958 f_27), (rf_MO mo mw ma mf m0 m1 mu mv u0 u1 iz th1_18 mb mn mpt mbg mwr mwk mlf men)]) (E2 := [(rf_MO mo mw ma mf m0 m1 mu mv u0 u1 iz th1_18 mb mn mpt mbg mwr mwk mlf men), (rf_RW ct 0 mw 958 f_27)]) (n := 2) [1, 0] rfl rfl (by decide))
          exact W.iret (v := y_33) hx hb hr (fun t ht hW => ⟨⟨y_33, (ws, th1_18, f_27), rfl, ⟨hT, ⟨hD_32, hR_29, hM_30⟩⟩, by rw [ht]; exact hP, by rw [hAe]; exact hD⟩, hS.F ht⟩) hS.2.2 dX11_setLimits_120
        · refine lv_iload_n hx hb dX11_setLimits_76 rfl (lv_at hl 3 rfl) ?_
          refine lv_aload_n hx hb dX11_setLimits_77 rfl (lv_at hl 0 rfl) ?_
          refine lv_iload hx hb dX11_setLimits_78 (lv_at hl 4 rfl) ?_
          refine lv_iconst (v := 0) hx hb dX11_setLimits_80 (by decide) ?_
          have hP : va_P D vwCl ([(rf_MO mo mw ma mf m0 m1 mu mv u0 u1 iz th1_18 mb mn mpt mbg mwr mwk mlf men), (rf_RW ct 0 mw 958 f_27)] ++ ws) H := ty_permP hP (ty_ordp (E := [(rf_RW ct 0 mw 958 f_27), (rf_MO mo mw ma mf m0 m1 mu mv u0 u1 iz th1_18 mb mn mpt mbg mwr mwk mlf men)]) (E2 := [(rf_MO mo mw ma mf m0 m1 mu mv u0 u1 iz th1_18 mb mn mpt mbg mwr mwk mlf men), (rf_RW ct 0 mw 958 f_27)]) (n := 2) [1, 0] rfl rfl (by decide))
          have hD : va_D A ([(rf_MO mo mw ma mf m0 m1 mu mv u0 u1 iz th1_18 mb mn mpt mbg mwr mwk mlf men), (rf_RW ct 0 mw 958 f_27)] ++ ws) := ty_permD hD (ty_ordp (E := [(rf_RW ct 0 mw 958 f_27), (rf_MO mo mw ma mf m0 m1 mu mv u0 u1 iz th1_18 mb mn mpt mbg mwr mwk mlf men)]) (E2 := [(rf_MO mo mw ma mf m0 m1 mu mv u0 u1 iz th1_18 mb mn mpt mbg mwr mwk mlf men), (rf_RW ct 0 mw 958 f_27)]) (n := 2) [1, 0] rfl rfl (by decide))
          refine ty_ki (wr := []) (wc := ([(rf_MO mo mw ma mf m0 m1 mu mv u0 u1 iz th1_18 mb mn mpt mbg mwr mwk mlf men), (rf_RW ct 0 mw 958 f_27)] ++ ws)) (va_runV (As := [.int y_34, .int 0]) (rest := [.int y_33]) ⟨hx, hb, hml, hown, hts⟩ (m_of_0 l D ct S ws ph xx mo mw ma mf m0 m1 mu mv u0 u1 iz mb th1_18 mn mpt mbg mwr mwk mlf men f_27 G cx y_34 _ hT h_mu h_mv h_u0 h_u1 hph hy1 hR_29 ⟨hex_64, by rw [← hR_29.2.1.2.2.2.2.1]; exact rf_ylt rfl hc_35⟩) (cm_V 2 hts kc_X11_of ki_RX11 kl_RX11_209 kv_X11_of kx_X11_of kd_X11_of ⟨Nat.le_of_ble_eq_true rfl, Nat.le_of_ble_eq_true rfl⟩) (ty_preE (wr := []) (wc := ([(rf_MO mo mw ma mf m0 m1 mu mv u0 u1 iz th1_18 mb mn mpt mbg mwr mwk mlf men), (rf_RW ct 0 mw 958 f_27)] ++ ws)) (ci := 11) (q0 := 0) hP hK hD hS hA hX rfl rfl) rfl rfl hl.1 rfl (lv_room (Nat.le_of_ble_eq_true rfl)) dX11_setLimits_81 ⟨Nat.le_of_ble_eq_true rfl, Nat.le_of_ble_eq_true rfl⟩) hP hD hS hA (fun r_36 u H locs hw_37 hP hD hS => ?_)
          obtain ⟨ws_38, rfl⟩ : ∃ z, z = u := ⟨_, rfl⟩
          obtain ⟨hT, rfl⟩ := hw_37
          have hP : va_P D vwCl ([(rf_MO mo mw ma mf m0 m1 mu mv u0 u1 iz th1_18 mb mn mpt mbg mwr mwk mlf men), (rf_RW ct 0 mw 958 f_27)] ++ ws_38) H := hP
          have hD : va_D A ([(rf_MO mo mw ma mf m0 m1 mu mv u0 u1 iz th1_18 mb mn mpt mbg mwr mwk mlf men), (rf_RW ct 0 mw 958 f_27)] ++ ws_38) := hD
          refine lv_iconst (v := 1) hx hb dX11_setLimits_84 (by decide) ?_
          refine lv_icmp_ne (tgt := 110) hx hb dX11_setLimits_85 (by decide) (fun hc_39 => ?_) (fun hc_39 => ?_)
          · refine lv_iconst (v := 0) hx hb dX11_setLimits_110 (by decide) ?_
            refine lv_iadd hx hb dX11_setLimits_111 ?_
            refine lv_topi (fun x_40 _ => ?_)
            refine lv_istore_n (lv' := [(3, .int x_40), (0, .ref mo), (1, .int p1), (2, .int p2), (4, .int y_34)]) hx hb dX11_setLimits_112 rfl hl (by decide) rfl (fun ls hl => ?_)
            refine lv_iinc (v := (y_34 + Int32.ofInt 1)) (lv' := [(4, .int (y_34 + Int32.ofInt 1)), (3, .int x_40), (0, .ref mo), (1, .int p1), (2, .int p2)]) hx hb dX11_setLimits_113 hl (k := 4) rfl rfl (by decide) rfl (fun ls hl => ?_)
            refine lv_goto (tgt := 64) hx hb dX11_setLimits_116 (by decide) ?_
            have hP : va_P D vwCl ([(rf_RW ct 0 mw 958 f_27), (rf_MO mo mw ma mf m0 m1 mu mv u0 u1 iz th1_18 mb mn mpt mbg mwr mwk mlf men)] ++ ws_38) H := ty_permP hP (ty_ordp (E := [(rf_MO mo mw ma mf m0 m1 mu mv u0 u1 iz th1_18 mb mn mpt mbg mwr mwk mlf men), (rf_RW ct 0 mw 958 f_27)]) (E2 := [(rf_RW ct 0 mw 958 f_27), (rf_MO mo mw ma mf m0 m1 mu mv u0 u1 iz th1_18 mb mn mpt mbg mwr mwk mlf men)]) (n := 2) [1, 0] rfl rfl (by decide))
            have hD : va_D A ([(rf_RW ct 0 mw 958 f_27), (rf_MO mo mw ma mf m0 m1 mu mv u0 u1 iz th1_18 mb mn mpt mbg mwr mwk mlf men)] ++ ws_38) := ty_permD hD (ty_ordp (E := [(rf_MO mo mw ma mf m0 m1 mu mv u0 u1 iz th1_18 mb mn mpt mbg mwr mwk mlf men), (rf_RW ct 0 mw 958 f_27)]) (E2 := [(rf_RW ct 0 mw 958 f_27), (rf_MO mo mw ma mf m0 m1 mu mv u0 u1 iz th1_18 mb mn mpt mbg mwr mwk mlf men)]) (n := 2) [1, 0] rfl rfl (by decide))
            exact ih_64 _ _ _ _ (ty_inc (cm_lt hc_35)) ⟨ws_38, x_40, (y_34 + Int32.ofInt 1), rfl, hT, hP, hD, hS, (lv_sub hl [2, 3, 4, 1, 0] rfl), (ty_nn hex_64 (cm_lt hc_35))⟩
          · refine lv_aload_n hx hb dX11_setLimits_88 rfl (lv_at hl 0 rfl) ?_
            refine lv_iload hx hb dX11_setLimits_89 (lv_at hl 4 rfl) ?_
            refine lv_iconst (v := 5) hx hb dX11_setLimits_91 (by decide) ?_
            refine ty_ki (wr := []) (wc := ([(rf_MO mo mw ma mf m0 m1 mu mv u0 u1 iz th1_18 mb mn mpt mbg mwr mwk mlf men), (rf_RW ct 0 mw 958 f_27)] ++ ws_38)) (va_runV (As := [.int y_34, .int 5]) (rest := [.int y_33]) ⟨hx, hb, hml, hown, hts⟩ (m_of_5 l D ct S ws_38 ph xx mo mw ma mf m0 m1 mu mv u0 u1 iz mb th1_18 mn mpt mbg mwr mwk mlf men f_27 G cx y_34 _ hT h_mu h_mv h_u0 h_u1 hph hy1 hR_29 ⟨hex_64, by rw [← hR_29.2.1.2.2.2.2.1]; exact rf_ylt rfl hc_35⟩) (cm_V 2 hts kc_X11_of ki_RX11 kl_RX11_209 kv_X11_of kx_X11_of kd_X11_of ⟨Nat.le_of_ble_eq_true rfl, Nat.le_of_ble_eq_true rfl⟩) (ty_preE (wr := []) (wc := ([(rf_MO mo mw ma mf m0 m1 mu mv u0 u1 iz th1_18 mb mn mpt mbg mwr mwk mlf men), (rf_RW ct 0 mw 958 f_27)] ++ ws_38)) (ci := 11) (q0 := 0) hP hK hD hS hA hX rfl rfl) rfl rfl hl.1 rfl (lv_room (Nat.le_of_ble_eq_true rfl)) dX11_setLimits_92 ⟨Nat.le_of_ble_eq_true rfl, Nat.le_of_ble_eq_true rfl⟩) hP hD hS hA (fun r_41 u H locs hw_42 hP hD hS => ?_)
            obtain ⟨ws_43, rfl⟩ : ∃ z, z = u := ⟨_, rfl⟩
            obtain ⟨hT, rfl⟩ := hw_42
            have hP : va_P D vwCl ([(rf_MO mo mw ma mf m0 m1 mu mv u0 u1 iz th1_18 mb mn mpt mbg mwr mwk mlf men), (rf_RW ct 0 mw 958 f_27)] ++ ws_43) H := hP
            have hD : va_D A ([(rf_MO mo mw ma mf m0 m1 mu mv u0 u1 iz th1_18 mb mn mpt mbg mwr mwk mlf men), (rf_RW ct 0 mw 958 f_27)] ++ ws_43) := hD
            refine lv_i2l hx hb dX11_setLimits_95 rfl ?_
            refine lv_topl (fun x_44 _ => ?_)
            refine lv_iload_n hx hb dX11_setLimits_96 rfl (lv_at hl 1 rfl) ?_
            refine lv_i2l hx hb dX11_setLimits_97 rfl ?_
            refine lv_topl (fun x_45 _ => ?_)
            refine lv_iload_n hx hb dX11_setLimits_98 rfl (lv_at hl 2 rfl) ?_
            refine lv_i2l hx hb dX11_setLimits_99 rfl ?_
            refine lv_topl (fun x_46 _ => ?_)
            refine ty_ki (wr := [(rf_MO mo mw ma mf m0 m1 mu mv u0 u1 iz th1_18 mb mn mpt mbg mwr mwk mlf men), (rf_RW ct 0 mw 958 f_27)]) (wc := ([] ++ ws_43)) (va_runS (As := [.long x_44, .long x_45, .long x_46]) (rest := [.int y_33]) ⟨hx, hb, hml, hown, hts⟩ (m_X11_in l D ct S ws_43 ph xx x_44 x_45 x_46 _ hT hph hy1) (cm_S 3 hts kc_X11_in ki_RX11 kl_RX11_70 ks_X11_in kd_X11_in ⟨Nat.le_of_ble_eq_true rfl, Nat.le_of_ble_eq_true rfl⟩) (ty_preS (wr := [(rf_MO mo mw ma mf m0 m1 mu mv u0 u1 iz th1_18 mb mn mpt mbg mwr mwk mlf men), (rf_RW ct 0 mw 958 f_27)]) (wc := ([] ++ ws_43)) hP hK hD hS hA hX) rfl rfl hl.1 rfl (lv_room (Nat.le_of_ble_eq_true rfl)) dX11_setLimits_100 ⟨Nat.le_of_ble_eq_true rfl, Nat.le_of_ble_eq_true rfl⟩) hP hD hS hA (fun r_47 u H locs hw_48 hP hD hS => ?_)
            obtain ⟨ws_49, rfl⟩ : ∃ z, z = u := ⟨_, rfl⟩
            obtain ⟨hT, rfl⟩ := hw_48
            have hP : va_P D vwCl ([(rf_MO mo mw ma mf m0 m1 mu mv u0 u1 iz th1_18 mb mn mpt mbg mwr mwk mlf men), (rf_RW ct 0 mw 958 f_27)] ++ ws_49) H := hP
            have hD : va_D A ([(rf_MO mo mw ma mf m0 m1 mu mv u0 u1 iz th1_18 mb mn mpt mbg mwr mwk mlf men), (rf_RW ct 0 mw 958 f_27)] ++ ws_49) := hD
            refine lv_if_ne (tgt := 110) hx hb dX11_setLimits_103 (by decide) (fun hc_50 => ?_) (fun hc_50 => ?_)
            · refine lv_iconst (v := 0) hx hb dX11_setLimits_110 (by decide) ?_
              refine lv_iadd hx hb dX11_setLimits_111 ?_
              refine lv_topi (fun x_51 _ => ?_)
              refine lv_istore_n (lv' := [(3, .int x_51), (0, .ref mo), (1, .int p1), (2, .int p2), (4, .int y_34)]) hx hb dX11_setLimits_112 rfl hl (by decide) rfl (fun ls hl => ?_)
              refine lv_iinc (v := (y_34 + Int32.ofInt 1)) (lv' := [(4, .int (y_34 + Int32.ofInt 1)), (3, .int x_51), (0, .ref mo), (1, .int p1), (2, .int p2)]) hx hb dX11_setLimits_113 hl (k := 4) rfl rfl (by decide) rfl (fun ls hl => ?_)
              refine lv_goto (tgt := 64) hx hb dX11_setLimits_116 (by decide) ?_
              have hP : va_P D vwCl ([(rf_RW ct 0 mw 958 f_27), (rf_MO mo mw ma mf m0 m1 mu mv u0 u1 iz th1_18 mb mn mpt mbg mwr mwk mlf men)] ++ ws_49) H := ty_permP hP (ty_ordp (E := [(rf_MO mo mw ma mf m0 m1 mu mv u0 u1 iz th1_18 mb mn mpt mbg mwr mwk mlf men), (rf_RW ct 0 mw 958 f_27)]) (E2 := [(rf_RW ct 0 mw 958 f_27), (rf_MO mo mw ma mf m0 m1 mu mv u0 u1 iz th1_18 mb mn mpt mbg mwr mwk mlf men)]) (n := 2) [1, 0] rfl rfl (by decide))
              have hD : va_D A ([(rf_RW ct 0 mw 958 f_27), (rf_MO mo mw ma mf m0 m1 mu mv u0 u1 iz th1_18 mb mn mpt mbg mwr mwk mlf men)] ++ ws_49) := ty_permD hD (ty_ordp (E := [(rf_MO mo mw ma mf m0 m1 mu mv u0 u1 iz th1_18 mb mn mpt mbg mwr mwk mlf men), (rf_RW ct 0 mw 958 f_27)]) (E2 := [(rf_RW ct 0 mw 958 f_27), (rf_MO mo mw ma mf m0 m1 mu mv u0 u1 iz th1_18 mb mn mpt mbg mwr mwk mlf men)]) (n := 2) [1, 0] rfl rfl (by decide))
              exact ih_64 _ _ _ _ (ty_inc (cm_lt hc_35)) ⟨ws_49, x_51, (y_34 + Int32.ofInt 1), rfl, hT, hP, hD, hS, (lv_sub hl [2, 3, 4, 1, 0] rfl), (ty_nn hex_64 (cm_lt hc_35))⟩
            · refine lv_iconst (v := 1) hx hb dX11_setLimits_106 (by decide) ?_
              refine lv_goto (tgt := 111) hx hb dX11_setLimits_107 (by decide) ?_
              refine lv_iadd hx hb dX11_setLimits_111 ?_
              refine lv_topi (fun x_52 _ => ?_)
              refine lv_istore_n (lv' := [(3, .int x_52), (0, .ref mo), (1, .int p1), (2, .int p2), (4, .int y_34)]) hx hb dX11_setLimits_112 rfl hl (by decide) rfl (fun ls hl => ?_)
              refine lv_iinc (v := (y_34 + Int32.ofInt 1)) (lv' := [(4, .int (y_34 + Int32.ofInt 1)), (3, .int x_52), (0, .ref mo), (1, .int p1), (2, .int p2)]) hx hb dX11_setLimits_113 hl (k := 4) rfl rfl (by decide) rfl (fun ls hl => ?_)
              refine lv_goto (tgt := 64) hx hb dX11_setLimits_116 (by decide) ?_
              have hP : va_P D vwCl ([(rf_RW ct 0 mw 958 f_27), (rf_MO mo mw ma mf m0 m1 mu mv u0 u1 iz th1_18 mb mn mpt mbg mwr mwk mlf men)] ++ ws_49) H := ty_permP hP (ty_ordp (E := [(rf_MO mo mw ma mf m0 m1 mu mv u0 u1 iz th1_18 mb mn mpt mbg mwr mwk mlf men), (rf_RW ct 0 mw 958 f_27)]) (E2 := [(rf_RW ct 0 mw 958 f_27), (rf_MO mo mw ma mf m0 m1 mu mv u0 u1 iz th1_18 mb mn mpt mbg mwr mwk mlf men)]) (n := 2) [1, 0] rfl rfl (by decide))
              have hD : va_D A ([(rf_RW ct 0 mw 958 f_27), (rf_MO mo mw ma mf m0 m1 mu mv u0 u1 iz th1_18 mb mn mpt mbg mwr mwk mlf men)] ++ ws_49) := ty_permD hD (ty_ordp (E := [(rf_MO mo mw ma mf m0 m1 mu mv u0 u1 iz th1_18 mb mn mpt mbg mwr mwk mlf men), (rf_RW ct 0 mw 958 f_27)]) (E2 := [(rf_RW ct 0 mw 958 f_27), (rf_MO mo mw ma mf m0 m1 mu mv u0 u1 iz th1_18 mb mn mpt mbg mwr mwk mlf men)]) (n := 2) [1, 0] rfl rfl (by decide))
              exact ih_64 _ _ _ _ (ty_inc (cm_lt hc_35)) ⟨ws_49, x_52, (y_34 + Int32.ofInt 1), rfl, hT, hP, hD, hS, (lv_sub hl [2, 3, 4, 1, 0] rfl), (ty_nn hex_64 (cm_lt hc_35))⟩
      · refine lv_if_eq (tgt := 45) hx hb dX11_setLimits_40 (by decide) (fun hc => absurd hc (by decide)) (fun _ => ?_)
        refine lv_iconst (v := 0) hx hb dX11_setLimits_43 (by decide) ?_
        have hP : va_P D vwCl ([(rf_MO mo mw ma mf m0 m1 mu mv u0 u1 iz th1_18 mb mn mpt mbg mwr mwk mlf men), (rf_RW ct 0 mw 958 f)] ++ ws_17) H := ty_permP hP (ty_ordp (E := [(rf_RW ct 0 mw 958 f), (rf_MO mo mw ma mf m0 m1 mu mv u0 u1 iz th1_18 mb mn mpt mbg mwr mwk mlf men)]) (E2 := [(rf_MO mo mw ma mf m0 m1 mu mv u0 u1 iz th1_18 mb mn mpt mbg mwr mwk mlf men), (rf_RW ct 0 mw 958 f)]) (n := 2) [1, 0] rfl rfl (by decide))
        have hD : va_D A ([(rf_MO mo mw ma mf m0 m1 mu mv u0 u1 iz th1_18 mb mn mpt mbg mwr mwk mlf men), (rf_RW ct 0 mw 958 f)] ++ ws_17) := ty_permD hD (ty_ordp (E := [(rf_RW ct 0 mw 958 f), (rf_MO mo mw ma mf m0 m1 mu mv u0 u1 iz th1_18 mb mn mpt mbg mwr mwk mlf men)]) (E2 := [(rf_MO mo mw ma mf m0 m1 mu mv u0 u1 iz th1_18 mb mn mpt mbg mwr mwk mlf men), (rf_RW ct 0 mw 958 f)]) (n := 2) [1, 0] rfl rfl (by decide))
        exact W.iret (v := 0) hx hb hr (fun t ht hW => ⟨⟨0, (ws_17, th1_18, f), rfl, ⟨hT, ⟨(rf_dr f), hR, (rf_smr f)⟩⟩, by rw [ht]; exact hP, by rw [hAe]; exact hD⟩, hS.F ht⟩) hS.2.2 dX11_setLimits_44
    · refine lv_iconst (v := 1) hx hb dX11_setLimits_31 (by decide) ?_
      refine lv_goto (tgt := 36) hx hb dX11_setLimits_32 (by decide) ?_
      refine lv_iconst (v := 1) hx hb dX11_setLimits_36 (by decide) ?_
      have hP : va_P D vwCl ([(rf_RW ct 0 mw 958 f), (rf_MO mo mw ma mf m0 m1 mu mv u0 u1 iz (0) mb mn mpt mbg mwr mwk mlf men)] ++ ws_13) H := ty_permP hP (ty_ordp (E := [(rf_MO mo mw ma mf m0 m1 mu mv u0 u1 iz (0) mb mn mpt mbg mwr mwk mlf men), (rf_RW ct 0 mw 958 f)]) (E2 := [(rf_RW ct 0 mw 958 f), (rf_MO mo mw ma mf m0 m1 mu mv u0 u1 iz (0) mb mn mpt mbg mwr mwk mlf men)]) (n := 2) [1, 0] rfl rfl (by decide))
      have hD : va_D A ([(rf_RW ct 0 mw 958 f), (rf_MO mo mw ma mf m0 m1 mu mv u0 u1 iz (0) mb mn mpt mbg mwr mwk mlf men)] ++ ws_13) := ty_permD hD (ty_ordp (E := [(rf_MO mo mw ma mf m0 m1 mu mv u0 u1 iz (0) mb mn mpt mbg mwr mwk mlf men), (rf_RW ct 0 mw 958 f)]) (E2 := [(rf_RW ct 0 mw 958 f), (rf_MO mo mw ma mf m0 m1 mu mv u0 u1 iz (0) mb mn mpt mbg mwr mwk mlf men)]) (n := 2) [1, 0] rfl rfl (by decide))
      refine ty_ki (wr := [(rf_RW ct 0 mw 958 f)]) (wc := ([(rf_MO mo mw ma mf m0 m1 mu mv u0 u1 iz (0) mb mn mpt mbg mwr mwk mlf men)] ++ ws_13)) (va_runV (As := [.int 1, .int 1]) (rest := []) ⟨hx, hb, hml, hown, hts⟩ (m_X11_throwsIf l D ct S ws_13 ph xx mo mw ma mf m0 m1 mu mv u0 u1 iz mb (0 : Int32) mn mpt mbg mwr mwk mlf men (1 : Int32) (1 : Int32) _ hT h_mu h_mv h_u0 h_u1 hph hy1 (by decide)) (cm_V 2 hts kc_X11_throwsIf ki_RX11 kl_RX11_328 kv_X11_throwsIf kx_X11_throwsIf kd_X11_throwsIf ⟨Nat.le_of_ble_eq_true rfl, Nat.le_of_ble_eq_true rfl⟩) (ty_preE (wr := [(rf_RW ct 0 mw 958 f)]) (wc := ([(rf_MO mo mw ma mf m0 m1 mu mv u0 u1 iz (0) mb mn mpt mbg mwr mwk mlf men)] ++ ws_13)) (ci := 11) (q0 := 1) hP hK hD hS hA hX rfl rfl) rfl rfl hl.1 rfl (lv_room (Nat.le_of_ble_eq_true rfl)) dX11_setLimits_37 ⟨Nat.le_of_ble_eq_true rfl, Nat.le_of_ble_eq_true rfl⟩) hP hD hS hA (fun r_53 u H locs hw_54 hP hD hS => ?_)
      obtain ⟨ws_55, th1_56⟩ := u
      obtain ⟨hT, hp_57⟩ := hw_54
      have hp_57 : ((r_53 = 0 ∧ (1 : Int32) = 0) ∨ r_53 = 1) := hp_57
      have hP : va_P D vwCl ([(rf_RW ct 0 mw 958 f), (rf_MO mo mw ma mf m0 m1 mu mv u0 u1 iz th1_56 mb mn mpt mbg mwr mwk mlf men)] ++ ws_55) H := hP
      have hD : va_D A ([(rf_RW ct 0 mw 958 f), (rf_MO mo mw ma mf m0 m1 mu mv u0 u1 iz th1_56 mb mn mpt mbg mwr mwk mlf men)] ++ ws_55) := hD
      rcases hp_57 with ⟨rfl, hz_58⟩ | rfl
      · exact absurd hz_58 (by decide)
      · refine lv_if_eq (tgt := 45) hx hb dX11_setLimits_40 (by decide) (fun hc => absurd hc (by decide)) (fun _ => ?_)
        refine lv_iconst (v := 0) hx hb dX11_setLimits_43 (by decide) ?_
        have hP : va_P D vwCl ([(rf_MO mo mw ma mf m0 m1 mu mv u0 u1 iz th1_56 mb mn mpt mbg mwr mwk mlf men), (rf_RW ct 0 mw 958 f)] ++ ws_55) H := ty_permP hP (ty_ordp (E := [(rf_RW ct 0 mw 958 f), (rf_MO mo mw ma mf m0 m1 mu mv u0 u1 iz th1_56 mb mn mpt mbg mwr mwk mlf men)]) (E2 := [(rf_MO mo mw ma mf m0 m1 mu mv u0 u1 iz th1_56 mb mn mpt mbg mwr mwk mlf men), (rf_RW ct 0 mw 958 f)]) (n := 2) [1, 0] rfl rfl (by decide))
        have hD : va_D A ([(rf_MO mo mw ma mf m0 m1 mu mv u0 u1 iz th1_56 mb mn mpt mbg mwr mwk mlf men), (rf_RW ct 0 mw 958 f)] ++ ws_55) := ty_permD hD (ty_ordp (E := [(rf_RW ct 0 mw 958 f), (rf_MO mo mw ma mf m0 m1 mu mv u0 u1 iz th1_56 mb mn mpt mbg mwr mwk mlf men)]) (E2 := [(rf_MO mo mw ma mf m0 m1 mu mv u0 u1 iz th1_56 mb mn mpt mbg mwr mwk mlf men), (rf_RW ct 0 mw 958 f)]) (n := 2) [1, 0] rfl rfl (by decide))
        exact W.iret (v := 0) hx hb hr (fun t ht hW => ⟨⟨0, (ws_55, th1_56, f), rfl, ⟨hT, ⟨(rf_dr f), hR, (rf_smr f)⟩⟩, by rw [ht]; exact hP, by rw [hAe]; exact hD⟩, hS.F ht⟩) hS.2.2 dX11_setLimits_44
theorem dX11_stepValue_0 : decode cX11_stepValue 0 = .ok (.aload_n 0, 1) := by decide +kernel
theorem dX11_stepValue_1 : decode cX11_stepValue 1 = .ok (.iconst 0, 1) := by decide +kernel
theorem dX11_stepValue_2 : decode cX11_stepValue 2 = .ok (.putfield 49, 3) := by decide +kernel
theorem dX11_stepValue_5 : decode cX11_stepValue 5 = .ok (.aload_n 0, 1) := by decide +kernel
theorem dX11_stepValue_6 : decode cX11_stepValue 6 = .ok (.iload_n 1, 1) := by decide +kernel
theorem dX11_stepValue_7 : decode cX11_stepValue 7 = .ok (.i2l, 1) := by decide +kernel
theorem dX11_stepValue_8 : decode cX11_stepValue 8 = .ok (.lconst 0, 1) := by decide +kernel
theorem dX11_stepValue_9 : decode cX11_stepValue 9 = .ok (.aload_n 0, 1) := by decide +kernel
theorem dX11_stepValue_10 : decode cX11_stepValue 10 = .ok (.getfield 9, 3) := by decide +kernel
theorem dX11_stepValue_13 : decode cX11_stepValue 13 = .ok (.bipush 10, 2) := by decide +kernel
theorem dX11_stepValue_15 : decode cX11_stepValue 15 = .ok (.iaload, 1) := by decide +kernel
theorem dX11_stepValue_16 : decode cX11_stepValue 16 = .ok (.iconst 1, 1) := by decide +kernel
theorem dX11_stepValue_17 : decode cX11_stepValue 17 = .ok (.isub, 1) := by decide +kernel
theorem dX11_stepValue_18 : decode cX11_stepValue 18 = .ok (.i2l, 1) := by decide +kernel
theorem dX11_stepValue_19 : decode cX11_stepValue 19 = .ok (.invokestatic 70, 3) := by decide +kernel
theorem dX11_stepValue_22 : decode cX11_stepValue 22 = .ok (.ifCond .ne 7, 3) := by decide +kernel
theorem dX11_stepValue_25 : decode cX11_stepValue 25 = .ok (.iconst 1, 1) := by decide +kernel
theorem dX11_stepValue_26 : decode cX11_stepValue 26 = .ok (.goto 4, 3) := by decide +kernel
theorem dX11_stepValue_29 : decode cX11_stepValue 29 = .ok (.iconst 0, 1) := by decide +kernel
theorem dX11_stepValue_30 : decode cX11_stepValue 30 = .ok (.iconst 1, 1) := by decide +kernel
theorem dX11_stepValue_31 : decode cX11_stepValue 31 = .ok (.invokevirtual 328, 3) := by decide +kernel
theorem dX11_stepValue_34 : decode cX11_stepValue 34 = .ok (.ifCond .ne 28, 3) := by decide +kernel
theorem dX11_stepValue_37 : decode cX11_stepValue 37 = .ok (.aload_n 0, 1) := by decide +kernel
theorem dX11_stepValue_38 : decode cX11_stepValue 38 = .ok (.iload_n 3, 1) := by decide +kernel
theorem dX11_stepValue_39 : decode cX11_stepValue 39 = .ok (.i2l, 1) := by decide +kernel
theorem dX11_stepValue_40 : decode cX11_stepValue 40 = .ok (.lconst 0, 1) := by decide +kernel
theorem dX11_stepValue_41 : decode cX11_stepValue 41 = .ok (.ldc2_w 326, 3) := by decide +kernel
theorem dX11_stepValue_44 : decode cX11_stepValue 44 = .ok (.invokestatic 70, 3) := by decide +kernel
theorem dX11_stepValue_47 : decode cX11_stepValue 47 = .ok (.ifCond .ne 7, 3) := by decide +kernel
theorem dX11_stepValue_50 : decode cX11_stepValue 50 = .ok (.iconst 1, 1) := by decide +kernel
theorem dX11_stepValue_51 : decode cX11_stepValue 51 = .ok (.goto 4, 3) := by decide +kernel
theorem dX11_stepValue_54 : decode cX11_stepValue 54 = .ok (.iconst 0, 1) := by decide +kernel
theorem dX11_stepValue_55 : decode cX11_stepValue 55 = .ok (.iconst 2, 1) := by decide +kernel
theorem dX11_stepValue_56 : decode cX11_stepValue 56 = .ok (.invokevirtual 328, 3) := by decide +kernel
theorem dX11_stepValue_59 : decode cX11_stepValue 59 = .ok (.ifCond .eq 5, 3) := by decide +kernel
theorem dX11_stepValue_62 : decode cX11_stepValue 62 = .ok (.iconst 0, 1) := by decide +kernel
theorem dX11_stepValue_63 : decode cX11_stepValue 63 = .ok (.ireturn, 1) := by decide +kernel
theorem dX11_stepValue_64 : decode cX11_stepValue 64 = .ok (.iload_n 2, 1) := by decide +kernel
theorem dX11_stepValue_65 : decode cX11_stepValue 65 = .ok (.i2l, 1) := by decide +kernel
theorem dX11_stepValue_66 : decode cX11_stepValue 66 = .ok (.lconst 0, 1) := by decide +kernel
theorem dX11_stepValue_67 : decode cX11_stepValue 67 = .ok (.aload_n 0, 1) := by decide +kernel
theorem dX11_stepValue_68 : decode cX11_stepValue 68 = .ok (.iload_n 1, 1) := by decide +kernel
theorem dX11_stepValue_69 : decode cX11_stepValue 69 = .ok (.invokevirtual 276, 3) := by decide +kernel
theorem dX11_stepValue_72 : decode cX11_stepValue 72 = .ok (.iconst 1, 1) := by decide +kernel
theorem dX11_stepValue_73 : decode cX11_stepValue 73 = .ok (.isub, 1) := by decide +kernel
theorem dX11_stepValue_74 : decode cX11_stepValue 74 = .ok (.i2l, 1) := by decide +kernel
theorem dX11_stepValue_75 : decode cX11_stepValue 75 = .ok (.invokestatic 70, 3) := by decide +kernel
theorem dX11_stepValue_78 : decode cX11_stepValue 78 = .ok (.ifCond .eq 13, 3) := by decide +kernel
theorem dX11_stepValue_81 : decode cX11_stepValue 81 = .ok (.aload_n 0, 1) := by decide +kernel
theorem dX11_stepValue_82 : decode cX11_stepValue 82 = .ok (.iload_n 1, 1) := by decide +kernel
theorem dX11_stepValue_83 : decode cX11_stepValue 83 = .ok (.iload_n 2, 1) := by decide +kernel
theorem dX11_stepValue_84 : decode cX11_stepValue 84 = .ok (.iload_n 3, 1) := by decide +kernel
theorem dX11_stepValue_85 : decode cX11_stepValue 85 = .ok (.invokevirtual 218, 3) := by decide +kernel
theorem dX11_stepValue_88 : decode cX11_stepValue 88 = .ok (.goto 4, 3) := by decide +kernel
theorem dX11_stepValue_91 : decode cX11_stepValue 91 = .ok (.iconst (-1), 1) := by decide +kernel
theorem dX11_stepValue_92 : decode cX11_stepValue 92 = .ok (.ireturn, 1) := by decide +kernel
set_option maxRecDepth 100000 in
set_option maxHeartbeats 4000000 in
theorem m_X11_stepValue (l : Launch) (D : va_G) (ct : Nat → ClassId) (S : ty_S) (ws : va_W) (ph : va_W → Prop) (xx : Nat → Nat → Nat → Prop) (mo : Nat) (mw : Nat) (ma : Nat) (mf : Nat) (m0 : Nat) (m1 : Nat) (mu : Nat) (mv : Nat) (u0 : Nat) (u1 : Nat) (iz : Nat) (mb : Nat) (th : Int32) (mn : Int32) (mpt : Int32) (mbg : Int32) (mwr : Int32) (mwk : Int32) (mlf : Int32) (men : Int32) (f : Nat → Int32) (G : Nat → Int32) (cx : Int) (p1 : Int32) (p2 : Int32) (p3 : Int32) (sz : Nat) (hT : ty_V ct S ph ws) (h_mu : S mu = some (.inr (1, 42))) (h_mv : S mv = some (.inr (1, 42))) (h_u0 : S u0 = some (.inr (1, 42))) (h_u1 : S u1 = some (.inr (1, 42))) (hph : ty_C ph xx) (hy1 : ty_y1 xx) (hR : rf_R G cx f) : Met l yX11_stepValue (ws_ yX11_stepValue cX11_stepValue 4 (some .int)) ({ frames := 1, cells := 0, slots := 0, locals := 25 } : Room) (va_Pc [.ref mo, .int p1, .int p2, .int p3] (cmP D ct sz ([(rf_MO mo mw ma mf m0 m1 mu mv u0 u1 iz th mb mn mpt mbg mwr mwk mlf men), (rf_RW ct 0 mw 958 f)] ++ ws))) (va_Qi (fun (r : Int32) (u : va_W × Int32) => match u with | (u9, th1) => ty_V ct S ph u9) (cmB D ([(rf_MO mo mw ma mf m0 m1 mu mv u0 u1 iz th mb mn mpt mbg mwr mwk mlf men), (rf_RW ct 0 mw 958 f)] ++ ws) sz (fun (u : va_W × Int32) => match u with | (u9, th1) => ([(rf_MO mo mw ma mf m0 m1 mu mv u0 u1 iz th1 mb mn mpt mbg mwr mwk mlf men), (rf_RW ct 0 mw 958 f)] ++ u9))) (va_A ([(rf_MO mo mw ma mf m0 m1 mu mv u0 u1 iz th mb mn mpt mbg mwr mwk mlf men), (rf_RW ct 0 mw 958 f)] ++ ws) sz)) 0 0 (va_A ([(rf_MO mo mw ma mf m0 m1 mu mv u0 u1 iz th mb mn mpt mbg mwr mwk mlf men), (rf_RW ct 0 mw 958 f)] ++ ws) sz) := by
  refine Met.ofW (cc := cX11_stepValue) (maxL := 4) (ret := (some .int)) (by decide) rfl ?_
  intro p e s m args below meth c s₁ B hml hv
  obtain ⟨rfl, hsz, hP, hK, hD0, hX⟩ := hv
  have hx := B.exec
  have hb := B.bytes
  have hr := B.returns
  have hts := ws_all (atoms_spec (ws := ws_ yX11_stepValue cX11_stepValue 4 (some .int)) B.pre)
  have hown : s.vm.findClass RX11 = some m.cls := findClass_of_methodNamed B.named
  have hlocks := B.notSynchronized
  subst hsz
  have hD := hD0.self (sz := s.heap.size)
  generalize hAe : va_A ([(rf_MO mo mw ma mf m0 m1 mu mv u0 u1 iz th mb mn mpt mbg mwr mwk mlf men), (rf_RW ct 0 mw 958 f)] ++ ws) s.heap.size = A at hD hX ⊢
  have hA : ∀ q : Nat, s.heap.size ≤ q → A q := fun q h => by rw [← hAe]; exact Or.inr h
  have hS : va_S A s.heap s.heap [] := va_S.rf
  have hl := lv_entry ([.ref mo, .int p1, .int p2, .int p3]) (n := 4) (Nat.le_of_ble_eq_true rfl)
  rw [lg_entry_eq]
  generalize (lg_sl ([.ref mo, .int p1, .int p2, .int p3]) ++ List.replicate (4 - (lg_sl ([.ref mo, .int p1, .int p2, .int p3])).length) Slot.unset).toArray = ls at hl ⊢
  have hl : lv_has ls 4 [(0, .ref mo), (1, .int p1), (2, .int p2), (3, .int p3)] := hl
  refine lv_aload_n hx hb dX11_stepValue_0 rfl (lv_at hl 0 rfl) ?_
  refine lv_iconst (v := 0) hx hb dX11_stepValue_1 (by decide) ?_
  refine va_put (v := .int 0) (ty := .int) (D := D) (ci := 11) (C := RX11) (T := TX11) (N := 19) hx hb hts in_X11 tyX11 tyX11_ok nmX11 hown hK hP hD hS 0 rfl rfl 10 (by decide) (hts _ kl_RX11_49) (fun _ h9 => h9) rfl (by decide +kernel) rfl rfl (Nat.le_of_ble_eq_true rfl) dX11_stepValue_2 (fun H locs hP hD hS => ?_)
  have hP : va_P D vwCl ([(rf_MO mo mw ma mf m0 m1 mu mv u0 u1 iz (0) mb mn mpt mbg mwr mwk mlf men), (rf_RW ct 0 mw 958 f)] ++ ws) H := hP
  have hD : va_D A ([(rf_MO mo mw ma mf m0 m1 mu mv u0 u1 iz (0) mb mn mpt mbg mwr mwk mlf men), (rf_RW ct 0 mw 958 f)] ++ ws) := hD
  refine lv_aload_n hx hb dX11_stepValue_5 rfl (lv_at hl 0 rfl) ?_
  refine lv_iload_n hx hb dX11_stepValue_6 rfl (lv_at hl 1 rfl) ?_
  refine lv_i2l hx hb dX11_stepValue_7 rfl ?_
  refine lv_lconst (v := 0) hx hb dX11_stepValue_8 (by decide) ?_
  refine lv_aload_n hx hb dX11_stepValue_9 rfl (lv_at hl 0 rfl) ?_
  refine va_get (v := .ref mw) (D := D) (ci := 11) (C := RX11) (T := TX11) (N := 19) hx hb hts in_X11 hown hK hP 0 rfl rfl 0 (by decide) (hts _ kl_RX11_9) (fun _ h9 => h9) rfl dX11_stepValue_10 ?_
  refine lv_bipush (v := 10) hx hb dX11_stepValue_13 (by decide) ?_
  refine va_iald hx hb hK hP 1 0 rfl rfl (cm_vin (by decide)) dX11_stepValue_15 ?_
  refine cm_cst (y := (f 10)) (by first | rfl | decide +kernel) ?_
  refine lv_iconst (v := 1) hx hb dX11_stepValue_16 (by decide) ?_
  refine lv_isub hx hb dX11_stepValue_17 ?_
  refine lv_i2l hx hb dX11_stepValue_18 rfl ?_
  refine ty_ki (wr := [(rf_MO mo mw ma mf m0 m1 mu mv u0 u1 iz (0) mb mn mpt mbg mwr mwk mlf men), (rf_RW ct 0 mw 958 f)]) (wc := ([] ++ ws)) (va_runS (As := [.long p1.toInt64, .long 0, .long (((f 10) - 1).toInt64)]) (rest := [.ref mo]) ⟨hx, hb, hml, hown, hts⟩ (m_X11_in l D ct S ws ph xx p1.toInt64 (0 : Int64) (((f 10) - 1).toInt64) _ hT hph hy1) (cm_S 3 hts kc_X11_in ki_RX11 kl_RX11_70 ks_X11_in kd_X11_in ⟨Nat.le_of_ble_eq_true rfl, Nat.le_of_ble_eq_true rfl⟩) (ty_preS (wr := [(rf_MO mo mw ma mf m0 m1 mu mv u0 u1 iz (0) mb mn mpt mbg mwr mwk mlf men), (rf_RW ct 0 mw 958 f)]) (wc := ([] ++ ws)) hP hK hD hS hA hX) rfl rfl hl.1 rfl (lv_room (Nat.le_of_ble_eq_true rfl)) dX11_stepValue_19 ⟨Nat.le_of_ble_eq_true rfl, Nat.le_of_ble_eq_true rfl⟩) hP hD hS hA (fun r_1 u H locs hw_2 hP hD hS => ?_)
  obtain ⟨ws_3, rfl⟩ : ∃ z, z = u := ⟨_, rfl⟩
  obtain ⟨hT, rfl⟩ := hw_2
  have hP : va_P D vwCl ([(rf_MO mo mw ma mf m0 m1 mu mv u0 u1 iz (0) mb mn mpt mbg mwr mwk mlf men), (rf_RW ct 0 mw 958 f)] ++ ws_3) H := hP
  have hD : va_D A ([(rf_MO mo mw ma mf m0 m1 mu mv u0 u1 iz (0) mb mn mpt mbg mwr mwk mlf men), (rf_RW ct 0 mw 958 f)] ++ ws_3) := hD
  refine lv_if_ne (tgt := 29) hx hb dX11_stepValue_22 (by decide) (fun hc_4 => ?_) (fun hc_4 => ?_)
  · refine lv_iconst (v := 0) hx hb dX11_stepValue_29 (by decide) ?_
    refine lv_iconst (v := 1) hx hb dX11_stepValue_30 (by decide) ?_
    have hP : va_P D vwCl ([(rf_RW ct 0 mw 958 f), (rf_MO mo mw ma mf m0 m1 mu mv u0 u1 iz (0) mb mn mpt mbg mwr mwk mlf men)] ++ ws_3) H := ty_permP hP (ty_ordp (E := [(rf_MO mo mw ma mf m0 m1 mu mv u0 u1 iz (0) mb mn mpt mbg mwr mwk mlf men), (rf_RW ct 0 mw 958 f)]) (E2 := [(rf_RW ct 0 mw 958 f), (rf_MO mo mw ma mf m0 m1 mu mv u0 u1 iz (0) mb mn mpt mbg mwr mwk mlf men)]) (n := 2) [1, 0] rfl rfl (by decide))
    have hD : va_D A ([(rf_RW ct 0 mw 958 f), (rf_MO mo mw ma mf m0 m1 mu mv u0 u1 iz (0) mb mn mpt mbg mwr mwk mlf men)] ++ ws_3) := ty_permD hD (ty_ordp (E := [(rf_MO mo mw ma mf m0 m1 mu mv u0 u1 iz (0) mb mn mpt mbg mwr mwk mlf men), (rf_RW ct 0 mw 958 f)]) (E2 := [(rf_RW ct 0 mw 958 f), (rf_MO mo mw ma mf m0 m1 mu mv u0 u1 iz (0) mb mn mpt mbg mwr mwk mlf men)]) (n := 2) [1, 0] rfl rfl (by decide))
    refine ty_ki (wr := [(rf_RW ct 0 mw 958 f)]) (wc := ([(rf_MO mo mw ma mf m0 m1 mu mv u0 u1 iz (0) mb mn mpt mbg mwr mwk mlf men)] ++ ws_3)) (va_runV (As := [.int 0, .int 1]) (rest := []) ⟨hx, hb, hml, hown, hts⟩ (m_X11_throwsIf l D ct S ws_3 ph xx mo mw ma mf m0 m1 mu mv u0 u1 iz mb (0 : Int32) mn mpt mbg mwr mwk mlf men (0 : Int32) (1 : Int32) _ hT h_mu h_mv h_u0 h_u1 hph hy1 (by decide)) (cm_V 2 hts kc_X11_throwsIf ki_RX11 kl_RX11_328 kv_X11_throwsIf kx_X11_throwsIf kd_X11_throwsIf ⟨Nat.le_of_ble_eq_true rfl, Nat.le_of_ble_eq_true rfl⟩) (ty_preE (wr := [(rf_RW ct 0 mw 958 f)]) (wc := ([(rf_MO mo mw ma mf m0 m1 mu mv u0 u1 iz (0) mb mn mpt mbg mwr mwk mlf men)] ++ ws_3)) (ci := 11) (q0 := 1) hP hK hD hS hA hX rfl rfl) rfl rfl hl.1 rfl (lv_room (Nat.le_of_ble_eq_true rfl)) dX11_stepValue_31 ⟨Nat.le_of_ble_eq_true rfl, Nat.le_of_ble_eq_true rfl⟩) hP hD hS hA (fun r_5 u H locs hw_6 hP hD hS => ?_)
    obtain ⟨ws_7, th1_8⟩ := u
    obtain ⟨hT, hp_9⟩ := hw_6
    have hp_9 : ((r_5 = 0 ∧ (0 : Int32) = 0) ∨ r_5 = 1) := hp_9
    have hP : va_P D vwCl ([(rf_RW ct 0 mw 958 f), (rf_MO mo mw ma mf m0 m1 mu mv u0 u1 iz th1_8 mb mn mpt mbg mwr mwk mlf men)] ++ ws_7) H := hP
    have hD : va_D A ([(rf_RW ct 0 mw 958 f), (rf_MO mo mw ma mf m0 m1 mu mv u0 u1 iz th1_8 mb mn mpt mbg mwr mwk mlf men)] ++ ws_7) := hD
    rcases hp_9 with ⟨rfl, hz_10⟩ | rfl
    · refine lv_if_ne (tgt := 62) hx hb dX11_stepValue_34 (by decide) (fun hc => absurd (by decide) hc) (fun _ => ?_)
      refine lv_aload_n hx hb dX11_stepValue_37 rfl (lv_at hl 0 rfl) ?_
      refine lv_iload_n hx hb dX11_stepValue_38 rfl (lv_at hl 3 rfl) ?_
      refine lv_i2l hx hb dX11_stepValue_39 rfl ?_
      refine lv_lconst (v := 0) hx hb dX11_stepValue_40 (by decide) ?_
      refine lv_ldc2 hx hb hown (hts _ kl_RX11_326) dX11_stepValue_41 ?_
      refine ty_ki (wr := [(rf_RW ct 0 mw 958 f), (rf_MO mo mw ma mf m0 m1 mu mv u0 u1 iz th1_8 mb mn mpt mbg mwr mwk mlf men)]) (wc := ([] ++ ws_7)) (va_runS (As := [.long p3.toInt64, .long 0, .long 2]) (rest := [.ref mo]) ⟨hx, hb, hml, hown, hts⟩ (m_X11_in l D ct S ws_7 ph xx p3.toInt64 (0 : Int64) (2 : Int64) _ hT hph hy1) (cm_S 3 hts kc_X11_in ki_RX11 kl_RX11_70 ks_X11_in kd_X11_in ⟨Nat.le_of_ble_eq_true rfl, Nat.le_of_ble_eq_true rfl⟩) (ty_preS (wr := [(rf_RW ct 0 mw 958 f), (rf_MO mo mw ma mf m0 m1 mu mv u0 u1 iz th1_8 mb mn mpt mbg mwr mwk mlf men)]) (wc := ([] ++ ws_7)) hP hK hD hS hA hX) rfl rfl hl.1 rfl (lv_room (Nat.le_of_ble_eq_true rfl)) dX11_stepValue_44 ⟨Nat.le_of_ble_eq_true rfl, Nat.le_of_ble_eq_true rfl⟩) hP hD hS hA (fun r_11 u H locs hw_12 hP hD hS => ?_)
      obtain ⟨ws_13, rfl⟩ : ∃ z, z = u := ⟨_, rfl⟩
      obtain ⟨hT, rfl⟩ := hw_12
      have hP : va_P D vwCl ([(rf_RW ct 0 mw 958 f), (rf_MO mo mw ma mf m0 m1 mu mv u0 u1 iz th1_8 mb mn mpt mbg mwr mwk mlf men)] ++ ws_13) H := hP
      have hD : va_D A ([(rf_RW ct 0 mw 958 f), (rf_MO mo mw ma mf m0 m1 mu mv u0 u1 iz th1_8 mb mn mpt mbg mwr mwk mlf men)] ++ ws_13) := hD
      refine lv_if_ne (tgt := 54) hx hb dX11_stepValue_47 (by decide) (fun hc_14 => ?_) (fun hc_14 => ?_)
      · refine lv_iconst (v := 0) hx hb dX11_stepValue_54 (by decide) ?_
        refine lv_iconst (v := 2) hx hb dX11_stepValue_55 (by decide) ?_
        refine ty_ki (wr := [(rf_RW ct 0 mw 958 f)]) (wc := ([(rf_MO mo mw ma mf m0 m1 mu mv u0 u1 iz th1_8 mb mn mpt mbg mwr mwk mlf men)] ++ ws_13)) (va_runV (As := [.int 0, .int 2]) (rest := []) ⟨hx, hb, hml, hown, hts⟩ (m_X11_throwsIf l D ct S ws_13 ph xx mo mw ma mf m0 m1 mu mv u0 u1 iz mb th1_8 mn mpt mbg mwr mwk mlf men (0 : Int32) (2 : Int32) _ hT h_mu h_mv h_u0 h_u1 hph hy1 (by decide)) (cm_V 2 hts kc_X11_throwsIf ki_RX11 kl_RX11_328 kv_X11_throwsIf kx_X11_throwsIf kd_X11_throwsIf ⟨Nat.le_of_ble_eq_true rfl, Nat.le_of_ble_eq_true rfl⟩) (ty_preE (wr := [(rf_RW ct 0 mw 958 f)]) (wc := ([(rf_MO mo mw ma mf m0 m1 mu mv u0 u1 iz th1_8 mb mn mpt mbg mwr mwk mlf men)] ++ ws_13)) (ci := 11) (q0 := 1) hP hK hD hS hA hX rfl rfl) rfl rfl hl.1 rfl (lv_room (Nat.le_of_ble_eq_true rfl)) dX11_stepValue_56 ⟨Nat.le_of_ble_eq_true rfl, Nat.le_of_ble_eq_true rfl⟩) hP hD hS hA (fun r_15 u H locs hw_16 hP hD hS => ?_)
        obtain ⟨ws_17, th1_18⟩ := u
        obtain ⟨hT, hp_19⟩ := hw_16
        have hp_19 : ((r_15 = 0 ∧ (0 : Int32) = 0) ∨ r_15 = 1) := hp_19
        have hP : va_P D vwCl ([(rf_RW ct 0 mw 958 f), (rf_MO mo mw ma mf m0 m1 mu mv u0 u1 iz th1_18 mb mn mpt mbg mwr mwk mlf men)] ++ ws_17) H := hP
        have hD : va_D A ([(rf_RW ct 0 mw 958 f), (rf_MO mo mw ma mf m0 m1 mu mv u0 u1 iz th1_18 mb mn mpt mbg mwr mwk mlf men)] ++ ws_17) := hD
        rcases hp_19 with ⟨rfl, hz_20⟩ | rfl
        · refine lv_if_eq (tgt := 64) hx hb dX11_stepValue_59 (by decide) (fun _ => ?_) (fun hc => absurd (by decide) hc)
          refine lv_iload_n hx hb dX11_stepValue_64 rfl (lv_at hl 2 rfl) ?_
          refine lv_i2l hx hb dX11_stepValue_65 rfl ?_
          refine lv_lconst (v := 0) hx hb dX11_stepValue_66 (by decide) ?_
          refine lv_aload_n hx hb dX11_stepValue_67 rfl (lv_at hl 0 rfl) ?_
          refine lv_iload_n hx hb dX11_stepValue_68 rfl (lv_at hl 1 rfl) ?_
          have hP : va_P D vwCl ([(rf_MO mo mw ma mf m0 m1 mu mv u0 u1 iz th1_18 mb mn mpt mbg mwr mwk mlf men), (rf_RW ct 0 mw 958 f)] ++ ws_17) H := ty_permP hP (ty_ordp (E := [(rf_RW ct 0 mw 958 f), (rf_MO mo mw ma mf m0 m1 mu mv u0 u1 iz th1_18 mb mn mpt mbg mwr mwk mlf men)]) (E2 := [(rf_MO mo mw ma mf m0 m1 mu mv u0 u1 iz th1_18 mb mn mpt mbg mwr mwk mlf men), (rf_RW ct 0 mw 958 f)]) (n := 2) [1, 0] rfl rfl (by decide))
          have hD : va_D A ([(rf_MO mo mw ma mf m0 m1 mu mv u0 u1 iz th1_18 mb mn mpt mbg mwr mwk mlf men), (rf_RW ct 0 mw 958 f)] ++ ws_17) := ty_permD hD (ty_ordp (E := [(rf_RW ct 0 mw 958 f), (rf_MO mo mw ma mf m0 m1 mu mv u0 u1 iz th1_18 mb mn mpt mbg mwr mwk mlf men)]) (E2 := [(rf_MO mo mw ma mf m0 m1 mu mv u0 u1 iz th1_18 mb mn mpt mbg mwr mwk mlf men), (rf_RW ct 0 mw 958 f)]) (n := 2) [1, 0] rfl rfl (by decide))
          refine ty_ki (wr := []) (wc := ([(rf_MO mo mw ma mf m0 m1 mu mv u0 u1 iz th1_18 mb mn mpt mbg mwr mwk mlf men), (rf_RW ct 0 mw 958 f)] ++ ws_17)) (va_runV (As := [.int p1]) (rest := [.long 0, .long p2.toInt64]) ⟨hx, hb, hml, hown, hts⟩ (m_X11_stepsOf l D ct S ws_17 ph xx mo mw ma mf m0 m1 mu mv u0 u1 iz mb th1_18 mn mpt mbg mwr mwk mlf men f G cx p1 _ hT h_mu h_mv h_u0 h_u1 hph hy1 hR (rf_p4 hR (rf_prog hR hc_4))) (cm_V 1 hts kc_X11_stepsOf ki_RX11 kl_RX11_276 kv_X11_stepsOf kx_X11_stepsOf kd_X11_stepsOf ⟨Nat.le_of_ble_eq_true rfl, Nat.le_of_ble_eq_true rfl⟩) (ty_preE (wr := []) (wc := ([(rf_MO mo mw ma mf m0 m1 mu mv u0 u1 iz th1_18 mb mn mpt mbg mwr mwk mlf men), (rf_RW ct 0 mw 958 f)] ++ ws_17)) (ci := 11) (q0 := 0) hP hK hD hS hA hX rfl rfl) rfl rfl hl.1 rfl (lv_room (Nat.le_of_ble_eq_true rfl)) dX11_stepValue_69 ⟨Nat.le_of_ble_eq_true rfl, Nat.le_of_ble_eq_true rfl⟩) hP hD hS hA (fun r_21 u H locs hw_22 hP hD hS => ?_)
          obtain ⟨ws_23, rfl⟩ : ∃ z, z = u := ⟨_, rfl⟩
          obtain ⟨hT, rfl⟩ := hw_22
          have hP : va_P D vwCl ([(rf_MO mo mw ma mf m0 m1 mu mv u0 u1 iz th1_18 mb mn mpt mbg mwr mwk mlf men), (rf_RW ct 0 mw 958 f)] ++ ws_23) H := hP
          have hD : va_D A ([(rf_MO mo mw ma mf m0 m1 mu mv u0 u1 iz th1_18 mb mn mpt mbg mwr mwk mlf men), (rf_RW ct 0 mw 958 f)] ++ ws_23) := hD
          refine lv_iconst (v := 1) hx hb dX11_stepValue_72 (by decide) ?_
          refine lv_isub hx hb dX11_stepValue_73 ?_
          refine lv_i2l hx hb dX11_stepValue_74 rfl ?_
          refine ty_ki (wr := [(rf_MO mo mw ma mf m0 m1 mu mv u0 u1 iz th1_18 mb mn mpt mbg mwr mwk mlf men), (rf_RW ct 0 mw 958 f)]) (wc := ([] ++ ws_23)) (va_runS (As := [.long p2.toInt64, .long 0, .long (((f (96 + 37 * p1.toInt.toNat)) - 1).toInt64)]) (rest := []) ⟨hx, hb, hml, hown, hts⟩ (m_X11_in l D ct S ws_23 ph xx p2.toInt64 (0 : Int64) (((f (96 + 37 * p1.toInt.toNat)) - 1).toInt64) _ hT hph hy1) (cm_S 3 hts kc_X11_in ki_RX11 kl_RX11_70 ks_X11_in kd_X11_in ⟨Nat.le_of_ble_eq_true rfl, Nat.le_of_ble_eq_true rfl⟩) (ty_preS (wr := [(rf_MO mo mw ma mf m0 m1 mu mv u0 u1 iz th1_18 mb mn mpt mbg mwr mwk mlf men), (rf_RW ct 0 mw 958 f)]) (wc := ([] ++ ws_23)) hP hK hD hS hA hX) rfl rfl hl.1 rfl (lv_room (Nat.le_of_ble_eq_true rfl)) dX11_stepValue_75 ⟨Nat.le_of_ble_eq_true rfl, Nat.le_of_ble_eq_true rfl⟩) hP hD hS hA (fun r_24 u H locs hw_25 hP hD hS => ?_)
          obtain ⟨ws_26, rfl⟩ : ∃ z, z = u := ⟨_, rfl⟩
          obtain ⟨hT, rfl⟩ := hw_25
          have hP : va_P D vwCl ([(rf_MO mo mw ma mf m0 m1 mu mv u0 u1 iz th1_18 mb mn mpt mbg mwr mwk mlf men), (rf_RW ct 0 mw 958 f)] ++ ws_26) H := hP
          have hD : va_D A ([(rf_MO mo mw ma mf m0 m1 mu mv u0 u1 iz th1_18 mb mn mpt mbg mwr mwk mlf men), (rf_RW ct 0 mw 958 f)] ++ ws_26) := hD
          refine lv_if_eq (tgt := 91) hx hb dX11_stepValue_78 (by decide) (fun hc_27 => ?_) (fun hc_27 => ?_)
          · refine lv_iconst (v := (-1)) hx hb dX11_stepValue_91 (by decide) ?_
            exact W.iret (v := (-1)) hx hb hr (fun t ht hW => ⟨⟨(-1), (ws_26, th1_18), rfl, hT, by rw [ht]; exact hP, by rw [hAe]; exact hD⟩, hS.F ht⟩) hS.2.2 dX11_stepValue_92
          · refine lv_aload_n hx hb dX11_stepValue_81 rfl (lv_at hl 0 rfl) ?_
            refine lv_iload_n hx hb dX11_stepValue_82 rfl (lv_at hl 1 rfl) ?_
            refine lv_iload_n hx hb dX11_stepValue_83 rfl (lv_at hl 2 rfl) ?_
            refine lv_iload_n hx hb dX11_stepValue_84 rfl (lv_at hl 3 rfl) ?_
            refine ty_ki (wr := []) (wc := ([(rf_MO mo mw ma mf m0 m1 mu mv u0 u1 iz th1_18 mb mn mpt mbg mwr mwk mlf men), (rf_RW ct 0 mw 958 f)] ++ ws_26)) (va_runV (As := [.int p1, .int p2, .int p3]) (rest := []) ⟨hx, hb, hml, hown, hts⟩ (m_X11_stepOf l D ct S ws_26 ph xx mo mw ma mf m0 m1 mu mv u0 u1 iz mb th1_18 mn mpt mbg mwr mwk mlf men f G cx p1 p2 p3 _ hT h_mu h_mv h_u0 h_u1 hph hy1 hR (rf_p4 hR (rf_prog hR hc_4)) (by have := rf_psn hR (rf_prog hR hc_4); have := rf_rngi (L := 0) (by decide) (by omega) (rf_ne0 hc_27); omega) (rf_rngc (L := 0) (U := 2) (by decide) (by decide) hc_14)) (cm_V 3 hts kc_X11_stepOf ki_RX11 kl_RX11_218 kv_X11_stepOf kx_X11_stepOf kd_X11_stepOf ⟨Nat.le_of_ble_eq_true rfl, Nat.le_of_ble_eq_true rfl⟩) (ty_preE (wr := []) (wc := ([(rf_MO mo mw ma mf m0 m1 mu mv u0 u1 iz th1_18 mb mn mpt mbg mwr mwk mlf men), (rf_RW ct 0 mw 958 f)] ++ ws_26)) (ci := 11) (q0 := 0) hP hK hD hS hA hX rfl rfl) rfl rfl hl.1 rfl (lv_room (Nat.le_of_ble_eq_true rfl)) dX11_stepValue_85 ⟨Nat.le_of_ble_eq_true rfl, Nat.le_of_ble_eq_true rfl⟩) hP hD hS hA (fun r_28 u H locs hw_29 hP hD hS => ?_)
            obtain ⟨ws_30, rfl⟩ : ∃ z, z = u := ⟨_, rfl⟩
            obtain ⟨hT, rfl⟩ := hw_29
            have hP : va_P D vwCl ([(rf_MO mo mw ma mf m0 m1 mu mv u0 u1 iz th1_18 mb mn mpt mbg mwr mwk mlf men), (rf_RW ct 0 mw 958 f)] ++ ws_30) H := hP
            have hD : va_D A ([(rf_MO mo mw ma mf m0 m1 mu mv u0 u1 iz th1_18 mb mn mpt mbg mwr mwk mlf men), (rf_RW ct 0 mw 958 f)] ++ ws_30) := hD
            refine lv_goto (tgt := 92) hx hb dX11_stepValue_88 (by decide) ?_
            exact W.iret (v := (f (97 + 37 * p1.toInt.toNat + 3 * p2.toInt.toNat + p3.toInt.toNat))) hx hb hr (fun t ht hW => ⟨⟨(f (97 + 37 * p1.toInt.toNat + 3 * p2.toInt.toNat + p3.toInt.toNat)), (ws_30, th1_18), rfl, hT, by rw [ht]; exact hP, by rw [hAe]; exact hD⟩, hS.F ht⟩) hS.2.2 dX11_stepValue_92
        · refine lv_if_eq (tgt := 64) hx hb dX11_stepValue_59 (by decide) (fun hc => absurd hc (by decide)) (fun _ => ?_)
          refine lv_iconst (v := 0) hx hb dX11_stepValue_62 (by decide) ?_
          have hP : va_P D vwCl ([(rf_MO mo mw ma mf m0 m1 mu mv u0 u1 iz th1_18 mb mn mpt mbg mwr mwk mlf men), (rf_RW ct 0 mw 958 f)] ++ ws_17) H := ty_permP hP (ty_ordp (E := [(rf_RW ct 0 mw 958 f), (rf_MO mo mw ma mf m0 m1 mu mv u0 u1 iz th1_18 mb mn mpt mbg mwr mwk mlf men)]) (E2 := [(rf_MO mo mw ma mf m0 m1 mu mv u0 u1 iz th1_18 mb mn mpt mbg mwr mwk mlf men), (rf_RW ct 0 mw 958 f)]) (n := 2) [1, 0] rfl rfl (by decide))
          have hD : va_D A ([(rf_MO mo mw ma mf m0 m1 mu mv u0 u1 iz th1_18 mb mn mpt mbg mwr mwk mlf men), (rf_RW ct 0 mw 958 f)] ++ ws_17) := ty_permD hD (ty_ordp (E := [(rf_RW ct 0 mw 958 f), (rf_MO mo mw ma mf m0 m1 mu mv u0 u1 iz th1_18 mb mn mpt mbg mwr mwk mlf men)]) (E2 := [(rf_MO mo mw ma mf m0 m1 mu mv u0 u1 iz th1_18 mb mn mpt mbg mwr mwk mlf men), (rf_RW ct 0 mw 958 f)]) (n := 2) [1, 0] rfl rfl (by decide))
          exact W.iret (v := 0) hx hb hr (fun t ht hW => ⟨⟨0, (ws_17, th1_18), rfl, hT, by rw [ht]; exact hP, by rw [hAe]; exact hD⟩, hS.F ht⟩) hS.2.2 dX11_stepValue_63
      · refine lv_iconst (v := 1) hx hb dX11_stepValue_50 (by decide) ?_
        refine lv_goto (tgt := 55) hx hb dX11_stepValue_51 (by decide) ?_
        refine lv_iconst (v := 2) hx hb dX11_stepValue_55 (by decide) ?_
        refine ty_ki (wr := [(rf_RW ct 0 mw 958 f)]) (wc := ([(rf_MO mo mw ma mf m0 m1 mu mv u0 u1 iz th1_8 mb mn mpt mbg mwr mwk mlf men)] ++ ws_13)) (va_runV (As := [.int 1, .int 2]) (rest := []) ⟨hx, hb, hml, hown, hts⟩ (m_X11_throwsIf l D ct S ws_13 ph xx mo mw ma mf m0 m1 mu mv u0 u1 iz mb th1_8 mn mpt mbg mwr mwk mlf men (1 : Int32) (2 : Int32) _ hT h_mu h_mv h_u0 h_u1 hph hy1 (by decide)) (cm_V 2 hts kc_X11_throwsIf ki_RX11 kl_RX11_328 kv_X11_throwsIf kx_X11_throwsIf kd_X11_throwsIf ⟨Nat.le_of_ble_eq_true rfl, Nat.le_of_ble_eq_true rfl⟩) (ty_preE (wr := [(rf_RW ct 0 mw 958 f)]) (wc := ([(rf_MO mo mw ma mf m0 m1 mu mv u0 u1 iz th1_8 mb mn mpt mbg mwr mwk mlf men)] ++ ws_13)) (ci := 11) (q0 := 1) hP hK hD hS hA hX rfl rfl) rfl rfl hl.1 rfl (lv_room (Nat.le_of_ble_eq_true rfl)) dX11_stepValue_56 ⟨Nat.le_of_ble_eq_true rfl, Nat.le_of_ble_eq_true rfl⟩) hP hD hS hA (fun r_31 u H locs hw_32 hP hD hS => ?_)
        obtain ⟨ws_33, th1_34⟩ := u
        obtain ⟨hT, hp_35⟩ := hw_32
        have hp_35 : ((r_31 = 0 ∧ (1 : Int32) = 0) ∨ r_31 = 1) := hp_35
        have hP : va_P D vwCl ([(rf_RW ct 0 mw 958 f), (rf_MO mo mw ma mf m0 m1 mu mv u0 u1 iz th1_34 mb mn mpt mbg mwr mwk mlf men)] ++ ws_33) H := hP
        have hD : va_D A ([(rf_RW ct 0 mw 958 f), (rf_MO mo mw ma mf m0 m1 mu mv u0 u1 iz th1_34 mb mn mpt mbg mwr mwk mlf men)] ++ ws_33) := hD
        rcases hp_35 with ⟨rfl, hz_36⟩ | rfl
        · exact absurd hz_36 (by decide)
        · refine lv_if_eq (tgt := 64) hx hb dX11_stepValue_59 (by decide) (fun hc => absurd hc (by decide)) (fun _ => ?_)
          refine lv_iconst (v := 0) hx hb dX11_stepValue_62 (by decide) ?_
          have hP : va_P D vwCl ([(rf_MO mo mw ma mf m0 m1 mu mv u0 u1 iz th1_34 mb mn mpt mbg mwr mwk mlf men), (rf_RW ct 0 mw 958 f)] ++ ws_33) H := ty_permP hP (ty_ordp (E := [(rf_RW ct 0 mw 958 f), (rf_MO mo mw ma mf m0 m1 mu mv u0 u1 iz th1_34 mb mn mpt mbg mwr mwk mlf men)]) (E2 := [(rf_MO mo mw ma mf m0 m1 mu mv u0 u1 iz th1_34 mb mn mpt mbg mwr mwk mlf men), (rf_RW ct 0 mw 958 f)]) (n := 2) [1, 0] rfl rfl (by decide))
          have hD : va_D A ([(rf_MO mo mw ma mf m0 m1 mu mv u0 u1 iz th1_34 mb mn mpt mbg mwr mwk mlf men), (rf_RW ct 0 mw 958 f)] ++ ws_33) := ty_permD hD (ty_ordp (E := [(rf_RW ct 0 mw 958 f), (rf_MO mo mw ma mf m0 m1 mu mv u0 u1 iz th1_34 mb mn mpt mbg mwr mwk mlf men)]) (E2 := [(rf_MO mo mw ma mf m0 m1 mu mv u0 u1 iz th1_34 mb mn mpt mbg mwr mwk mlf men), (rf_RW ct 0 mw 958 f)]) (n := 2) [1, 0] rfl rfl (by decide))
          exact W.iret (v := 0) hx hb hr (fun t ht hW => ⟨⟨0, (ws_33, th1_34), rfl, hT, by rw [ht]; exact hP, by rw [hAe]; exact hD⟩, hS.F ht⟩) hS.2.2 dX11_stepValue_63
    · refine lv_if_ne (tgt := 62) hx hb dX11_stepValue_34 (by decide) (fun _ => ?_) (fun hc => absurd hc (by decide))
      refine lv_iconst (v := 0) hx hb dX11_stepValue_62 (by decide) ?_
      have hP : va_P D vwCl ([(rf_MO mo mw ma mf m0 m1 mu mv u0 u1 iz th1_8 mb mn mpt mbg mwr mwk mlf men), (rf_RW ct 0 mw 958 f)] ++ ws_7) H := ty_permP hP (ty_ordp (E := [(rf_RW ct 0 mw 958 f), (rf_MO mo mw ma mf m0 m1 mu mv u0 u1 iz th1_8 mb mn mpt mbg mwr mwk mlf men)]) (E2 := [(rf_MO mo mw ma mf m0 m1 mu mv u0 u1 iz th1_8 mb mn mpt mbg mwr mwk mlf men), (rf_RW ct 0 mw 958 f)]) (n := 2) [1, 0] rfl rfl (by decide))
      have hD : va_D A ([(rf_MO mo mw ma mf m0 m1 mu mv u0 u1 iz th1_8 mb mn mpt mbg mwr mwk mlf men), (rf_RW ct 0 mw 958 f)] ++ ws_7) := ty_permD hD (ty_ordp (E := [(rf_RW ct 0 mw 958 f), (rf_MO mo mw ma mf m0 m1 mu mv u0 u1 iz th1_8 mb mn mpt mbg mwr mwk mlf men)]) (E2 := [(rf_MO mo mw ma mf m0 m1 mu mv u0 u1 iz th1_8 mb mn mpt mbg mwr mwk mlf men), (rf_RW ct 0 mw 958 f)]) (n := 2) [1, 0] rfl rfl (by decide))
      exact W.iret (v := 0) hx hb hr (fun t ht hW => ⟨⟨0, (ws_7, th1_8), rfl, hT, by rw [ht]; exact hP, by rw [hAe]; exact hD⟩, hS.F ht⟩) hS.2.2 dX11_stepValue_63
  · refine lv_iconst (v := 1) hx hb dX11_stepValue_25 (by decide) ?_
    refine lv_goto (tgt := 30) hx hb dX11_stepValue_26 (by decide) ?_
    refine lv_iconst (v := 1) hx hb dX11_stepValue_30 (by decide) ?_
    have hP : va_P D vwCl ([(rf_RW ct 0 mw 958 f), (rf_MO mo mw ma mf m0 m1 mu mv u0 u1 iz (0) mb mn mpt mbg mwr mwk mlf men)] ++ ws_3) H := ty_permP hP (ty_ordp (E := [(rf_MO mo mw ma mf m0 m1 mu mv u0 u1 iz (0) mb mn mpt mbg mwr mwk mlf men), (rf_RW ct 0 mw 958 f)]) (E2 := [(rf_RW ct 0 mw 958 f), (rf_MO mo mw ma mf m0 m1 mu mv u0 u1 iz (0) mb mn mpt mbg mwr mwk mlf men)]) (n := 2) [1, 0] rfl rfl (by decide))
    have hD : va_D A ([(rf_RW ct 0 mw 958 f), (rf_MO mo mw ma mf m0 m1 mu mv u0 u1 iz (0) mb mn mpt mbg mwr mwk mlf men)] ++ ws_3) := ty_permD hD (ty_ordp (E := [(rf_MO mo mw ma mf m0 m1 mu mv u0 u1 iz (0) mb mn mpt mbg mwr mwk mlf men), (rf_RW ct 0 mw 958 f)]) (E2 := [(rf_RW ct 0 mw 958 f), (rf_MO mo mw ma mf m0 m1 mu mv u0 u1 iz (0) mb mn mpt mbg mwr mwk mlf men)]) (n := 2) [1, 0] rfl rfl (by decide))
    refine ty_ki (wr := [(rf_RW ct 0 mw 958 f)]) (wc := ([(rf_MO mo mw ma mf m0 m1 mu mv u0 u1 iz (0) mb mn mpt mbg mwr mwk mlf men)] ++ ws_3)) (va_runV (As := [.int 1, .int 1]) (rest := []) ⟨hx, hb, hml, hown, hts⟩ (m_X11_throwsIf l D ct S ws_3 ph xx mo mw ma mf m0 m1 mu mv u0 u1 iz mb (0 : Int32) mn mpt mbg mwr mwk mlf men (1 : Int32) (1 : Int32) _ hT h_mu h_mv h_u0 h_u1 hph hy1 (by decide)) (cm_V 2 hts kc_X11_throwsIf ki_RX11 kl_RX11_328 kv_X11_throwsIf kx_X11_throwsIf kd_X11_throwsIf ⟨Nat.le_of_ble_eq_true rfl, Nat.le_of_ble_eq_true rfl⟩) (ty_preE (wr := [(rf_RW ct 0 mw 958 f)]) (wc := ([(rf_MO mo mw ma mf m0 m1 mu mv u0 u1 iz (0) mb mn mpt mbg mwr mwk mlf men)] ++ ws_3)) (ci := 11) (q0 := 1) hP hK hD hS hA hX rfl rfl) rfl rfl hl.1 rfl (lv_room (Nat.le_of_ble_eq_true rfl)) dX11_stepValue_31 ⟨Nat.le_of_ble_eq_true rfl, Nat.le_of_ble_eq_true rfl⟩) hP hD hS hA (fun r_37 u H locs hw_38 hP hD hS => ?_)
    obtain ⟨ws_39, th1_40⟩ := u
    obtain ⟨hT, hp_41⟩ := hw_38
    have hp_41 : ((r_37 = 0 ∧ (1 : Int32) = 0) ∨ r_37 = 1) := hp_41
    have hP : va_P D vwCl ([(rf_RW ct 0 mw 958 f), (rf_MO mo mw ma mf m0 m1 mu mv u0 u1 iz th1_40 mb mn mpt mbg mwr mwk mlf men)] ++ ws_39) H := hP
    have hD : va_D A ([(rf_RW ct 0 mw 958 f), (rf_MO mo mw ma mf m0 m1 mu mv u0 u1 iz th1_40 mb mn mpt mbg mwr mwk mlf men)] ++ ws_39) := hD
    rcases hp_41 with ⟨rfl, hz_42⟩ | rfl
    · exact absurd hz_42 (by decide)
    · refine lv_if_ne (tgt := 62) hx hb dX11_stepValue_34 (by decide) (fun _ => ?_) (fun hc => absurd hc (by decide))
      refine lv_iconst (v := 0) hx hb dX11_stepValue_62 (by decide) ?_
      have hP : va_P D vwCl ([(rf_MO mo mw ma mf m0 m1 mu mv u0 u1 iz th1_40 mb mn mpt mbg mwr mwk mlf men), (rf_RW ct 0 mw 958 f)] ++ ws_39) H := ty_permP hP (ty_ordp (E := [(rf_RW ct 0 mw 958 f), (rf_MO mo mw ma mf m0 m1 mu mv u0 u1 iz th1_40 mb mn mpt mbg mwr mwk mlf men)]) (E2 := [(rf_MO mo mw ma mf m0 m1 mu mv u0 u1 iz th1_40 mb mn mpt mbg mwr mwk mlf men), (rf_RW ct 0 mw 958 f)]) (n := 2) [1, 0] rfl rfl (by decide))
      have hD : va_D A ([(rf_MO mo mw ma mf m0 m1 mu mv u0 u1 iz th1_40 mb mn mpt mbg mwr mwk mlf men), (rf_RW ct 0 mw 958 f)] ++ ws_39) := ty_permD hD (ty_ordp (E := [(rf_RW ct 0 mw 958 f), (rf_MO mo mw ma mf m0 m1 mu mv u0 u1 iz th1_40 mb mn mpt mbg mwr mwk mlf men)]) (E2 := [(rf_MO mo mw ma mf m0 m1 mu mv u0 u1 iz th1_40 mb mn mpt mbg mwr mwk mlf men), (rf_RW ct 0 mw 958 f)]) (n := 2) [1, 0] rfl rfl (by decide))
      exact W.iret (v := 0) hx hb hr (fun t ht hW => ⟨⟨0, (ws_39, th1_40), rfl, hT, by rw [ht]; exact hP, by rw [hAe]; exact hD⟩, hS.F ht⟩) hS.2.2 dX11_stepValue_63
theorem dX11_now_0 : decode cX11_now 0 = .ok (.aload_n 0, 1) := by decide +kernel
theorem dX11_now_1 : decode cX11_now 1 = .ok (.iconst 0, 1) := by decide +kernel
theorem dX11_now_2 : decode cX11_now 2 = .ok (.putfield 49, 3) := by decide +kernel
theorem dX11_now_5 : decode cX11_now 5 = .ok (.aload_n 0, 1) := by decide +kernel
theorem dX11_now_6 : decode cX11_now 6 = .ok (.getfield 9, 3) := by decide +kernel
theorem dX11_now_9 : decode cX11_now 9 = .ok (.bipush 8, 2) := by decide +kernel
theorem dX11_now_11 : decode cX11_now 11 = .ok (.iaload, 1) := by decide +kernel
theorem dX11_now_12 : decode cX11_now 12 = .ok (.ireturn, 1) := by decide +kernel
set_option maxRecDepth 100000 in
set_option maxHeartbeats 4000000 in
theorem m_X11_now (l : Launch) (D : va_G) (ct : Nat → ClassId) (S : ty_S) (ws : va_W) (ph : va_W → Prop) (xx : Nat → Nat → Nat → Prop) (mo : Nat) (mw : Nat) (ma : Nat) (mf : Nat) (m0 : Nat) (m1 : Nat) (mu : Nat) (mv : Nat) (u0 : Nat) (u1 : Nat) (iz : Nat) (mb : Nat) (th : Int32) (mn : Int32) (mpt : Int32) (mbg : Int32) (mwr : Int32) (mwk : Int32) (mlf : Int32) (men : Int32) (f : Nat → Int32) (G : Nat → Int32) (cx : Int) (sz : Nat) (hT : ty_V ct S ph ws) (h_mu : S mu = some (.inr (1, 42))) (h_mv : S mv = some (.inr (1, 42))) (h_u0 : S u0 = some (.inr (1, 42))) (h_u1 : S u1 = some (.inr (1, 42))) (hph : ty_C ph xx) (hy1 : ty_y1 xx) (hR : rf_R G cx f) : Met l yX11_now (ws_ yX11_now cX11_now 1 (some .int)) ({ frames := 0, cells := 0, slots := 0, locals := 0 } : Room) (va_Pc [.ref mo] (cmP D ct sz ([(rf_MO mo mw ma mf m0 m1 mu mv u0 u1 iz th mb mn mpt mbg mwr mwk mlf men), (rf_RW ct 0 mw 958 f)] ++ ws))) (va_Qi (fun (r : Int32) (u : va_W × Int32) => match u with | (u9, th1) => ty_V ct S ph u9 ∧ r = (f 8)) (cmB D ([(rf_MO mo mw ma mf m0 m1 mu mv u0 u1 iz th mb mn mpt mbg mwr mwk mlf men), (rf_RW ct 0 mw 958 f)] ++ ws) sz (fun (u : va_W × Int32) => match u with | (u9, th1) => ([(rf_MO mo mw ma mf m0 m1 mu mv u0 u1 iz th1 mb mn mpt mbg mwr mwk mlf men), (rf_RW ct 0 mw 958 f)] ++ u9))) (va_A ([(rf_MO mo mw ma mf m0 m1 mu mv u0 u1 iz th mb mn mpt mbg mwr mwk mlf men), (rf_RW ct 0 mw 958 f)] ++ ws) sz)) 0 0 (va_A ([(rf_MO mo mw ma mf m0 m1 mu mv u0 u1 iz th mb mn mpt mbg mwr mwk mlf men), (rf_RW ct 0 mw 958 f)] ++ ws) sz) := by
  refine Met.ofW (cc := cX11_now) (maxL := 1) (ret := (some .int)) (by decide) rfl ?_
  intro p e s m args below meth c s₁ B hml hv
  obtain ⟨rfl, hsz, hP, hK, hD0, hX⟩ := hv
  have hx := B.exec
  have hb := B.bytes
  have hr := B.returns
  have hts := ws_all (atoms_spec (ws := ws_ yX11_now cX11_now 1 (some .int)) B.pre)
  have hown : s.vm.findClass RX11 = some m.cls := findClass_of_methodNamed B.named
  have hlocks := B.notSynchronized
  subst hsz
  have hD := hD0.self (sz := s.heap.size)
  generalize hAe : va_A ([(rf_MO mo mw ma mf m0 m1 mu mv u0 u1 iz th mb mn mpt mbg mwr mwk mlf men), (rf_RW ct 0 mw 958 f)] ++ ws) s.heap.size = A at hD hX ⊢
  have hA : ∀ q : Nat, s.heap.size ≤ q → A q := fun q h => by rw [← hAe]; exact Or.inr h
  have hS : va_S A s.heap s.heap [] := va_S.rf
  have hl := lv_entry ([.ref mo]) (n := 1) (Nat.le_of_ble_eq_true rfl)
  rw [lg_entry_eq]
  generalize (lg_sl ([.ref mo]) ++ List.replicate (1 - (lg_sl ([.ref mo])).length) Slot.unset).toArray = ls at hl ⊢
  have hl : lv_has ls 1 [(0, .ref mo)] := hl
  refine lv_aload_n hx hb dX11_now_0 rfl (lv_at hl 0 rfl) ?_
  refine lv_iconst (v := 0) hx hb dX11_now_1 (by decide) ?_
  refine va_put (v := .int 0) (ty := .int) (D := D) (ci := 11) (C := RX11) (T := TX11) (N := 19) hx hb hts in_X11 tyX11 tyX11_ok nmX11 hown hK hP hD hS 0 rfl rfl 10 (by decide) (hts _ kl_RX11_49) (fun _ h9 => h9) rfl (by decide +kernel) rfl rfl (Nat.le_of_ble_eq_true rfl) dX11_now_2 (fun H locs hP hD hS => ?_)
  have hP : va_P D vwCl ([(rf_MO mo mw ma mf m0 m1 mu mv u0 u1 iz (0) mb mn mpt mbg mwr mwk mlf men), (rf_RW ct 0 mw 958 f)] ++ ws) H := hP
  have hD : va_D A ([(rf_MO mo mw ma mf m0 m1 mu mv u0 u1 iz (0) mb mn mpt mbg mwr mwk mlf men), (rf_RW ct 0 mw 958 f)] ++ ws) := hD
  refine lv_aload_n hx hb dX11_now_5 rfl (lv_at hl 0 rfl) ?_
  refine va_get (v := .ref mw) (D := D) (ci := 11) (C := RX11) (T := TX11) (N := 19) hx hb hts in_X11 hown hK hP 0 rfl rfl 0 (by decide) (hts _ kl_RX11_9) (fun _ h9 => h9) rfl dX11_now_6 ?_
  refine lv_bipush (v := 8) hx hb dX11_now_9 (by decide) ?_
  refine va_iald hx hb hK hP 1 0 rfl rfl (cm_vin (by decide)) dX11_now_11 ?_
  refine cm_cst (y := (f 8)) (by first | rfl | decide +kernel) ?_
  exact W.iret (v := (f 8)) hx hb hr (fun t ht hW => ⟨⟨(f 8), (ws, (0 : Int32)), rfl, ⟨hT, rfl⟩, by rw [ht]; exact hP, by rw [hAe]; exact hD⟩, hS.F ht⟩) hS.2.2 dX11_now_12
theorem dX11_thrown_0 : decode cX11_thrown 0 = .ok (.aload_n 0, 1) := by decide +kernel
theorem dX11_thrown_1 : decode cX11_thrown 1 = .ok (.getfield 49, 3) := by decide +kernel
theorem dX11_thrown_4 : decode cX11_thrown 4 = .ok (.ireturn, 1) := by decide +kernel
set_option maxRecDepth 100000 in
set_option maxHeartbeats 4000000 in
theorem m_X11_thrown (l : Launch) (D : va_G) (ct : Nat → ClassId) (S : ty_S) (ws : va_W) (ph : va_W → Prop) (xx : Nat → Nat → Nat → Prop) (mo : Nat) (mw : Nat) (ma : Nat) (mf : Nat) (m0 : Nat) (m1 : Nat) (mu : Nat) (mv : Nat) (u0 : Nat) (u1 : Nat) (iz : Nat) (mb : Nat) (th : Int32) (mn : Int32) (mpt : Int32) (mbg : Int32) (mwr : Int32) (mwk : Int32) (mlf : Int32) (men : Int32) (sz : Nat) (hT : ty_V ct S ph ws) (h_mu : S mu = some (.inr (1, 42))) (h_mv : S mv = some (.inr (1, 42))) (h_u0 : S u0 = some (.inr (1, 42))) (h_u1 : S u1 = some (.inr (1, 42))) (hph : ty_C ph xx) (hy1 : ty_y1 xx) : Met l yX11_thrown (ws_ yX11_thrown cX11_thrown 1 (some .int)) ({ frames := 0, cells := 0, slots := 0, locals := 0 } : Room) (va_Pc [.ref mo] (cmP D ct sz ([(rf_MO mo mw ma mf m0 m1 mu mv u0 u1 iz th mb mn mpt mbg mwr mwk mlf men)] ++ ws))) (va_Qi (fun (r : Int32) (u9 : va_W) => ty_V ct S ph u9 ∧ r = th) (cmB D ([(rf_MO mo mw ma mf m0 m1 mu mv u0 u1 iz th mb mn mpt mbg mwr mwk mlf men)] ++ ws) sz (fun (u9 : va_W) => ([(rf_MO mo mw ma mf m0 m1 mu mv u0 u1 iz th mb mn mpt mbg mwr mwk mlf men)] ++ u9))) (va_A ([(rf_MO mo mw ma mf m0 m1 mu mv u0 u1 iz th mb mn mpt mbg mwr mwk mlf men)] ++ ws) sz)) 0 0 (va_A ([(rf_MO mo mw ma mf m0 m1 mu mv u0 u1 iz th mb mn mpt mbg mwr mwk mlf men)] ++ ws) sz) := by
  refine Met.ofW (cc := cX11_thrown) (maxL := 1) (ret := (some .int)) (by decide) rfl ?_
  intro p e s m args below meth c s₁ B hml hv
  obtain ⟨rfl, hsz, hP, hK, hD0, hX⟩ := hv
  have hx := B.exec
  have hb := B.bytes
  have hr := B.returns
  have hts := ws_all (atoms_spec (ws := ws_ yX11_thrown cX11_thrown 1 (some .int)) B.pre)
  have hown : s.vm.findClass RX11 = some m.cls := findClass_of_methodNamed B.named
  have hlocks := B.notSynchronized
  subst hsz
  have hD := hD0.self (sz := s.heap.size)
  generalize hAe : va_A ([(rf_MO mo mw ma mf m0 m1 mu mv u0 u1 iz th mb mn mpt mbg mwr mwk mlf men)] ++ ws) s.heap.size = A at hD hX ⊢
  have hA : ∀ q : Nat, s.heap.size ≤ q → A q := fun q h => by rw [← hAe]; exact Or.inr h
  have hS : va_S A s.heap s.heap [] := va_S.rf
  have hl := lv_entry ([.ref mo]) (n := 1) (Nat.le_of_ble_eq_true rfl)
  rw [lg_entry_eq]
  generalize (lg_sl ([.ref mo]) ++ List.replicate (1 - (lg_sl ([.ref mo])).length) Slot.unset).toArray = ls at hl ⊢
  have hl : lv_has ls 1 [(0, .ref mo)] := hl
  refine lv_aload_n hx hb dX11_thrown_0 rfl (lv_at hl 0 rfl) ?_
  refine va_get (v := .int th) (D := D) (ci := 11) (C := RX11) (T := TX11) (N := 19) hx hb hts in_X11 hown hK hP 0 rfl rfl 10 (by decide) (hts _ kl_RX11_49) (fun _ h9 => h9) rfl dX11_thrown_1 ?_
  exact W.iret (v := th) hx hb hr (fun t ht hW => ⟨⟨th, ws, rfl, ⟨hT, rfl⟩, by rw [ht]; exact hP, by rw [hAe]; exact hD⟩, hS.F ht⟩) hS.2.2 dX11_thrown_4
theorem dX11_advance_0 : decode cX11_advance 0 = .ok (.aload_n 0, 1) := by decide +kernel
theorem dX11_advance_1 : decode cX11_advance 1 = .ok (.iconst 0, 1) := by decide +kernel
theorem dX11_advance_2 : decode cX11_advance 2 = .ok (.putfield 49, 3) := by decide +kernel
theorem dX11_advance_5 : decode cX11_advance 5 = .ok (.aload_n 0, 1) := by decide +kernel
theorem dX11_advance_6 : decode cX11_advance 6 = .ok (.iload_n 1, 1) := by decide +kernel
theorem dX11_advance_7 : decode cX11_advance 7 = .ok (.i2l, 1) := by decide +kernel
theorem dX11_advance_8 : decode cX11_advance 8 = .ok (.lconst 1, 1) := by decide +kernel
theorem dX11_advance_9 : decode cX11_advance 9 = .ok (.ldc2_w 338, 3) := by decide +kernel
theorem dX11_advance_12 : decode cX11_advance 12 = .ok (.invokestatic 70, 3) := by decide +kernel
theorem dX11_advance_15 : decode cX11_advance 15 = .ok (.ifCond .ne 7, 3) := by decide +kernel
theorem dX11_advance_18 : decode cX11_advance 18 = .ok (.iconst 1, 1) := by decide +kernel
theorem dX11_advance_19 : decode cX11_advance 19 = .ok (.goto 4, 3) := by decide +kernel
theorem dX11_advance_22 : decode cX11_advance 22 = .ok (.iconst 0, 1) := by decide +kernel
theorem dX11_advance_23 : decode cX11_advance 23 = .ok (.iconst 1, 1) := by decide +kernel
theorem dX11_advance_24 : decode cX11_advance 24 = .ok (.invokevirtual 328, 3) := by decide +kernel
theorem dX11_advance_27 : decode cX11_advance 27 = .ok (.ifCond .eq 5, 3) := by decide +kernel
theorem dX11_advance_30 : decode cX11_advance 30 = .ok (.iconst 0, 1) := by decide +kernel
theorem dX11_advance_31 : decode cX11_advance 31 = .ok (.ireturn, 1) := by decide +kernel
theorem dX11_advance_32 : decode cX11_advance 32 = .ok (.aload_n 0, 1) := by decide +kernel
theorem dX11_advance_33 : decode cX11_advance 33 = .ok (.getfield 9, 3) := by decide +kernel
theorem dX11_advance_36 : decode cX11_advance 36 = .ok (.bipush 8, 2) := by decide +kernel
theorem dX11_advance_38 : decode cX11_advance 38 = .ok (.iaload, 1) := by decide +kernel
theorem dX11_advance_39 : decode cX11_advance 39 = .ok (.iload_n 1, 1) := by decide +kernel
theorem dX11_advance_40 : decode cX11_advance 40 = .ok (.iadd, 1) := by decide +kernel
theorem dX11_advance_41 : decode cX11_advance 41 = .ok (.ldc_w 340, 3) := by decide +kernel
theorem dX11_advance_44 : decode cX11_advance 44 = .ok (.if_icmp .le 6, 3) := by decide +kernel
theorem dX11_advance_47 : decode cX11_advance 47 = .ok (.bipush (-2), 2) := by decide +kernel
theorem dX11_advance_49 : decode cX11_advance 49 = .ok (.ireturn, 1) := by decide +kernel
theorem dX11_advance_50 : decode cX11_advance 50 = .ok (.aload_n 0, 1) := by decide +kernel
theorem dX11_advance_51 : decode cX11_advance 51 = .ok (.iconst 0, 1) := by decide +kernel
theorem dX11_advance_52 : decode cX11_advance 52 = .ok (.putfield 300, 3) := by decide +kernel
theorem dX11_advance_55 : decode cX11_advance 55 = .ok (.iconst 0, 1) := by decide +kernel
theorem dX11_advance_56 : decode cX11_advance 56 = .ok (.istore_n 2, 1) := by decide +kernel
theorem dX11_advance_57 : decode cX11_advance 57 = .ok (.iload_n 2, 1) := by decide +kernel
theorem dX11_advance_58 : decode cX11_advance 58 = .ok (.iload_n 1, 1) := by decide +kernel
theorem dX11_advance_59 : decode cX11_advance 59 = .ok (.if_icmp .ge 13, 3) := by decide +kernel
theorem dX11_advance_62 : decode cX11_advance 62 = .ok (.aload_n 0, 1) := by decide +kernel
theorem dX11_advance_63 : decode cX11_advance 63 = .ok (.invokevirtual 341, 3) := by decide +kernel
theorem dX11_advance_66 : decode cX11_advance 66 = .ok (.iinc 2 1, 3) := by decide +kernel
theorem dX11_advance_69 : decode cX11_advance 69 = .ok (.goto (-12), 3) := by decide +kernel
theorem dX11_advance_72 : decode cX11_advance 72 = .ok (.aload_n 0, 1) := by decide +kernel
theorem dX11_advance_73 : decode cX11_advance 73 = .ok (.getfield 300, 3) := by decide +kernel
theorem dX11_advance_76 : decode cX11_advance 76 = .ok (.ireturn, 1) := by decide +kernel
set_option maxRecDepth 100000 in
set_option maxHeartbeats 4000000 in
theorem m_X11_advance (l : Launch) (D : va_G) (ct : Nat → ClassId) (S : ty_S) (ws : va_W) (ph : va_W → Prop) (xx : Nat → Nat → Nat → Prop) (mo : Nat) (mw : Nat) (ma : Nat) (mf : Nat) (m0 : Nat) (m1 : Nat) (mu : Nat) (mv : Nat) (u0 : Nat) (u1 : Nat) (iz : Nat) (mb : Nat) (th : Int32) (mn : Int32) (mpt : Int32) (mbg : Int32) (mwr : Int32) (mwk : Int32) (mlf : Int32) (men : Int32) (f : Nat → Int32) (G : Nat → Int32) (p1 : Int32) (sz : Nat) (hT : ty_V ct S ph ws) (h_mu : S mu = some (.inr (1, 42))) (h_mv : S mv = some (.inr (1, 42))) (h_u0 : S u0 = some (.inr (1, 42))) (h_u1 : S u1 = some (.inr (1, 42))) (hph : ty_C ph xx) (hy1 : ty_y1 xx) (hy11 : ty_y0 xx 11) (hR : rf_R G (-1) f) : Met l yX11_advance (ws_ yX11_advance cX11_advance 3 (some .int)) ({ frames := 8, cells := 0, slots := 0, locals := 186 } : Room) (va_Pc [.ref mo, .int p1] (cmP D ct sz ([(rf_MO mo mw ma mf m0 m1 mu mv u0 u1 iz th mb mn mpt mbg mwr mwk mlf men), (rf_RW ct 0 mw 958 f)] ++ ws))) (va_Qi (fun (r : Int32) (u : va_W × Int32 × Int32 × (Nat → Int32)) => match u with | (u9, men1, th1, f1) => ty_V ct S ph u9 ∧ rf_d (rp_av (f 8) p1) f f1 ∧ rf_R G (-1) f1) (cmB D ([(rf_MO mo mw ma mf m0 m1 mu mv u0 u1 iz th mb mn mpt mbg mwr mwk mlf men), (rf_RW ct 0 mw 958 f)] ++ ws) sz (fun (u : va_W × Int32 × Int32 × (Nat → Int32)) => match u with | (u9, men1, th1, f1) => ([(rf_MO mo mw ma mf m0 m1 mu mv u0 u1 iz th1 mb mn mpt mbg mwr mwk mlf men1), (rf_RW ct 0 mw 958 f1)] ++ u9))) (va_A ([(rf_MO mo mw ma mf m0 m1 mu mv u0 u1 iz th mb mn mpt mbg mwr mwk mlf men), (rf_RW ct 0 mw 958 f)] ++ ws) sz)) 0 0 (va_A ([(rf_MO mo mw ma mf m0 m1 mu mv u0 u1 iz th mb mn mpt mbg mwr mwk mlf men), (rf_RW ct 0 mw 958 f)] ++ ws) sz) := by
  refine Met.ofW (cc := cX11_advance) (maxL := 3) (ret := (some .int)) (by decide) rfl ?_
  intro p e s m args below meth c s₁ B hml hv
  obtain ⟨rfl, hsz, hP, hK, hD0, hX⟩ := hv
  have hx := B.exec
  have hb := B.bytes
  have hr := B.returns
  have hts := ws_all (atoms_spec (ws := ws_ yX11_advance cX11_advance 3 (some .int)) B.pre)
  have hown : s.vm.findClass RX11 = some m.cls := findClass_of_methodNamed B.named
  have hlocks := B.notSynchronized
  subst hsz
  have hD := hD0.self (sz := s.heap.size)
  generalize hAe : va_A ([(rf_MO mo mw ma mf m0 m1 mu mv u0 u1 iz th mb mn mpt mbg mwr mwk mlf men), (rf_RW ct 0 mw 958 f)] ++ ws) s.heap.size = A at hD hX ⊢
  have hA : ∀ q : Nat, s.heap.size ≤ q → A q := fun q h => by rw [← hAe]; exact Or.inr h
  have hS : va_S A s.heap s.heap [] := va_S.rf
  have hl := lv_entry ([.ref mo, .int p1]) (n := 3) (Nat.le_of_ble_eq_true rfl)
  rw [lg_entry_eq]
  generalize (lg_sl ([.ref mo, .int p1]) ++ List.replicate (3 - (lg_sl ([.ref mo, .int p1])).length) Slot.unset).toArray = ls at hl ⊢
  have hl : lv_has ls 3 [(0, .ref mo), (1, .int p1)] := hl
  refine lv_aload_n hx hb dX11_advance_0 rfl (lv_at hl 0 rfl) ?_
  refine lv_iconst (v := 0) hx hb dX11_advance_1 (by decide) ?_
  refine va_put (v := .int 0) (ty := .int) (D := D) (ci := 11) (C := RX11) (T := TX11) (N := 19) hx hb hts in_X11 tyX11 tyX11_ok nmX11 hown hK hP hD hS 0 rfl rfl 10 (by decide) (hts _ kl_RX11_49) (fun _ h9 => h9) rfl (by decide +kernel) rfl rfl (Nat.le_of_ble_eq_true rfl) dX11_advance_2 (fun H locs hP hD hS => ?_)
  have hP : va_P D vwCl ([(rf_MO mo mw ma mf m0 m1 mu mv u0 u1 iz (0) mb mn mpt mbg mwr mwk mlf men), (rf_RW ct 0 mw 958 f)] ++ ws) H := hP
  have hD : va_D A ([(rf_MO mo mw ma mf m0 m1 mu mv u0 u1 iz (0) mb mn mpt mbg mwr mwk mlf men), (rf_RW ct 0 mw 958 f)] ++ ws) := hD
  refine lv_aload_n hx hb dX11_advance_5 rfl (lv_at hl 0 rfl) ?_
  refine lv_iload_n hx hb dX11_advance_6 rfl (lv_at hl 1 rfl) ?_
  refine lv_i2l hx hb dX11_advance_7 rfl ?_
  refine lv_lconst (v := 1) hx hb dX11_advance_8 (by decide) ?_
  refine lv_ldc2 hx hb hown (hts _ kl_RX11_338) dX11_advance_9 ?_
  refine ty_ki (wr := [(rf_MO mo mw ma mf m0 m1 mu mv u0 u1 iz (0) mb mn mpt mbg mwr mwk mlf men), (rf_RW ct 0 mw 958 f)]) (wc := ([] ++ ws)) (va_runS (As := [.long p1.toInt64, .long 1, .long 5000]) (rest := [.ref mo]) ⟨hx, hb, hml, hown, hts⟩ (m_X11_in l D ct S ws ph xx p1.toInt64 (1 : Int64) (5000 : Int64) _ hT hph hy1) (cm_S 3 hts kc_X11_in ki_RX11 kl_RX11_70 ks_X11_in kd_X11_in ⟨Nat.le_of_ble_eq_true rfl, Nat.le_of_ble_eq_true rfl⟩) (ty_preS (wr := [(rf_MO mo mw ma mf m0 m1 mu mv u0 u1 iz (0) mb mn mpt mbg mwr mwk mlf men), (rf_RW ct 0 mw 958 f)]) (wc := ([] ++ ws)) hP hK hD hS hA hX) rfl rfl hl.1 rfl (lv_room (Nat.le_of_ble_eq_true rfl)) dX11_advance_12 ⟨Nat.le_of_ble_eq_true rfl, Nat.le_of_ble_eq_true rfl⟩) hP hD hS hA (fun r_1 u H locs hw_2 hP hD hS => ?_)
  obtain ⟨ws_3, rfl⟩ : ∃ z, z = u := ⟨_, rfl⟩
  obtain ⟨hT, rfl⟩ := hw_2
  have hP : va_P D vwCl ([(rf_MO mo mw ma mf m0 m1 mu mv u0 u1 iz (0) mb mn mpt mbg mwr mwk mlf men), (rf_RW ct 0 mw 958 f)] ++ ws_3) H := hP
  have hD : va_D A ([(rf_MO mo mw ma mf m0 m1 mu mv u0 u1 iz (0) mb mn mpt mbg mwr mwk mlf men), (rf_RW ct 0 mw 958 f)] ++ ws_3) := hD
  refine lv_if_ne (tgt := 22) hx hb dX11_advance_15 (by decide) (fun hc_4 => ?_) (fun hc_4 => ?_)
  · refine lv_iconst (v := 0) hx hb dX11_advance_22 (by decide) ?_
    refine lv_iconst (v := 1) hx hb dX11_advance_23 (by decide) ?_
    have hP : va_P D vwCl ([(rf_RW ct 0 mw 958 f), (rf_MO mo mw ma mf m0 m1 mu mv u0 u1 iz (0) mb mn mpt mbg mwr mwk mlf men)] ++ ws_3) H := ty_permP hP (ty_ordp (E := [(rf_MO mo mw ma mf m0 m1 mu mv u0 u1 iz (0) mb mn mpt mbg mwr mwk mlf men), (rf_RW ct 0 mw 958 f)]) (E2 := [(rf_RW ct 0 mw 958 f), (rf_MO mo mw ma mf m0 m1 mu mv u0 u1 iz (0) mb mn mpt mbg mwr mwk mlf men)]) (n := 2) [1, 0] rfl rfl (by decide))
    have hD : va_D A ([(rf_RW ct 0 mw 958 f), (rf_MO mo mw ma mf m0 m1 mu mv u0 u1 iz (0) mb mn mpt mbg mwr mwk mlf men)] ++ ws_3) := ty_permD hD (ty_ordp (E := [(rf_MO mo mw ma mf m0 m1 mu mv u0 u1 iz (0) mb mn mpt mbg mwr mwk mlf men), (rf_RW ct 0 mw 958 f)]) (E2 := [(rf_RW ct 0 mw 958 f), (rf_MO mo mw ma mf m0 m1 mu mv u0 u1 iz (0) mb mn mpt mbg mwr mwk mlf men)]) (n := 2) [1, 0] rfl rfl (by decide))
    refine ty_ki (wr := [(rf_RW ct 0 mw 958 f)]) (wc := ([(rf_MO mo mw ma mf m0 m1 mu mv u0 u1 iz (0) mb mn mpt mbg mwr mwk mlf men)] ++ ws_3)) (va_runV (As := [.int 0, .int 1]) (rest := []) ⟨hx, hb, hml, hown, hts⟩ (m_throwsIf_0 l D ct S ws_3 ph xx mo mw ma mf m0 m1 mu mv u0 u1 iz mb mn mpt mbg mwr mwk mlf men (0 : Int32) (1 : Int32) _ hT h_mu h_mv h_u0 h_u1 hph hy1 (by decide)) (cm_V 2 hts kc_X11_throwsIf ki_RX11 kl_RX11_328 kv_X11_throwsIf kx_X11_throwsIf kd_X11_throwsIf ⟨Nat.le_of_ble_eq_true rfl, Nat.le_of_ble_eq_true rfl⟩) (ty_preE (wr := [(rf_RW ct 0 mw 958 f)]) (wc := ([(rf_MO mo mw ma mf m0 m1 mu mv u0 u1 iz (0) mb mn mpt mbg mwr mwk mlf men)] ++ ws_3)) (ci := 11) (q0 := 1) hP hK hD hS hA hX rfl rfl) rfl rfl hl.1 rfl (lv_room (Nat.le_of_ble_eq_true rfl)) dX11_advance_24 ⟨Nat.le_of_ble_eq_true rfl, Nat.le_of_ble_eq_true rfl⟩) hP hD hS hA (fun r_5 u H locs hw_6 hP hD hS => ?_)
    obtain ⟨ws_7, th1_8⟩ := u
    obtain ⟨hT, hp_9⟩ := hw_6
    have hp_9 : ((r_5 = 0 ∧ (0 : Int32) = 0 ∧ th1_8 = 0) ∨ (r_5 = 1 ∧ ¬ (0 : Int32) = 0 ∧ th1_8 = (1 : Int32))) := hp_9
    have hP : va_P D vwCl ([(rf_RW ct 0 mw 958 f), (rf_MO mo mw ma mf m0 m1 mu mv u0 u1 iz th1_8 mb mn mpt mbg mwr mwk mlf men)] ++ ws_7) H := hP
    have hD : va_D A ([(rf_RW ct 0 mw 958 f), (rf_MO mo mw ma mf m0 m1 mu mv u0 u1 iz th1_8 mb mn mpt mbg mwr mwk mlf men)] ++ ws_7) := hD
    rcases hp_9 with ⟨rfl, hz_10⟩ | ⟨rfl, hz_11⟩
    · refine lv_if_eq (tgt := 32) hx hb dX11_advance_27 (by decide) (fun _ => ?_) (fun hc => absurd (by decide) hc)
      refine lv_aload_n hx hb dX11_advance_32 rfl (lv_at hl 0 rfl) ?_
      refine va_get (v := .ref mw) (D := D) (ci := 11) (C := RX11) (T := TX11) (N := 19) hx hb hts in_X11 hown hK hP 1 rfl rfl 0 (by decide) (hts _ kl_RX11_9) (fun _ h9 => h9) rfl dX11_advance_33 ?_
      refine lv_bipush (v := 8) hx hb dX11_advance_36 (by decide) ?_
      refine va_iald hx hb hK hP 0 0 rfl rfl (cm_vin (by decide)) dX11_advance_38 ?_
      refine cm_cst (y := (f 8)) (by first | rfl | decide +kernel) ?_
      refine lv_iload_n hx hb dX11_advance_39 rfl (lv_at hl 1 rfl) ?_
      refine lv_iadd hx hb dX11_advance_40 ?_
      refine lv_ldcw hx hb hown (hts _ kl_RX11_340) dX11_advance_41 ?_
      refine lv_icmp_le (tgt := 50) hx hb dX11_advance_44 (by decide) (fun hc_12 => ?_) (fun hc_12 => ?_)
      · refine lv_aload_n hx hb dX11_advance_50 rfl (lv_at hl 0 rfl) ?_
        refine lv_iconst (v := 0) hx hb dX11_advance_51 (by decide) ?_
        refine va_put (v := .int 0) (ty := .int) (D := D) (ci := 11) (C := RX11) (T := TX11) (N := 19) hx hb hts in_X11 tyX11 tyX11_ok nmX11 hown hK hP hD hS 1 rfl rfl 18 (by decide) (hts _ kl_RX11_300) (fun _ h9 => h9) rfl (by decide +kernel) rfl rfl (Nat.le_of_ble_eq_true rfl) dX11_advance_52 (fun H locs hP hD hS => ?_)
        have hP : va_P D vwCl ([(rf_RW ct 0 mw 958 f), (rf_MO mo mw ma mf m0 m1 mu mv u0 u1 iz th1_8 mb mn mpt mbg mwr mwk mlf (0))] ++ ws_7) H := hP
        have hD : va_D A ([(rf_RW ct 0 mw 958 f), (rf_MO mo mw ma mf m0 m1 mu mv u0 u1 iz th1_8 mb mn mpt mbg mwr mwk mlf (0))] ++ ws_7) := hD
        refine lv_iconst (v := 0) hx hb dX11_advance_55 (by decide) ?_
        refine lv_istore_n (lv' := [(2, .int 0), (0, .ref mo), (1, .int p1)]) hx hb dX11_advance_56 rfl hl (by decide) rfl (fun ls hl => ?_)
        refine ty_loop (I := fun μ H locs ls => ∃ (ws : va_W) (y_13 : Int32) (y_14 : Int32) (f_15 : Nat → Int32), μ = (2147483648 - y_13.toInt).toNat ∧ ty_V ct S ph ws ∧ va_P D vwCl ([(rf_RW ct 0 mw 958 f_15), (rf_MO mo mw ma mf m0 m1 mu mv u0 u1 iz th1_8 mb mn mpt mbg mwr mwk mlf y_14)] ++ ws) H ∧ va_D A ([(rf_RW ct 0 mw 958 f_15), (rf_MO mo mw ma mf m0 m1 mu mv u0 u1 iz th1_8 mb mn mpt mbg mwr mwk mlf y_14)] ++ ws) ∧ va_S A s.heap H locs ∧ lv_has ls 3 [(0, .ref mo), (1, .int p1), (2, .int y_13)] ∧ rf_R G (-1) f_15 ∧ rf_d ((f 8) + y_13) f f_15 ∧ 0 ≤ y_13.toInt ∧ y_13.toInt ≤ p1.toInt) ⟨_, ws_7, (0 : Int32), (0 : Int32), f, rfl, hT, hP, hD, hS, (lv_sub hl [1, 2, 0] rfl), hR, (rf_da0 (rf_dr f)), ⟨by decide, (by have := (rf_rngc (L := 1) (U := 5000) (by decide) (by decide) hc_4); have z : (0 : Int32).toInt = 0 := (by decide); omega)⟩⟩ (fun μ H locs ls hI ih_57 => ?_)
        obtain ⟨ws, y_13, y_14, f_15, rfl, hT, hP, hD, hS, hl, hR_57, hD_57, hex_57⟩ := hI
        refine lv_iload_n hx hb dX11_advance_57 rfl (lv_at hl 2 rfl) ?_
        refine lv_iload_n hx hb dX11_advance_58 rfl (lv_at hl 1 rfl) ?_
        refine lv_icmp_ge (tgt := 72) hx hb dX11_advance_59 (by decide) (fun hc_16 => ?_) (fun hc_16 => ?_)
        · refine lv_aload_n hx hb dX11_advance_72 rfl (lv_at hl 0 rfl) ?_
          refine va_get (v := .int y_14) (D := D) (ci := 11) (C := RX11) (T := TX11) (N := 19) hx hb hts in_X11 hown hK hP 1 rfl rfl 18 (by decide) (hts _ kl_RX11_300) (fun _ h9 => h9) rfl dX11_advance_73 ?_
          have hP : va_P D vwCl ([(rf_MO mo mw ma mf m0 m1 mu mv u0 u1 iz th1_8 mb mn mpt mbg mwr mwk mlf y_14), (rf_RW ct 0 mw 958 f_15)] ++ ws) H := ty_permP hP (ty_ordp (E := [(rf_RW ct 0 mw 958 f_15), (rf_MO mo mw ma mf m0 m1 mu mv u0 u1 iz th1_8 mb mn mpt mbg mwr mwk mlf y_14)]) (E2 := [(rf_MO mo mw ma mf m0 m1 mu mv u0 u1 iz th1_8 mb mn mpt mbg mwr mwk mlf y_14), (rf_RW ct 0 mw 958 f_15)]) (n := 2) [1, 0] rfl rfl (by decide))
          have hD : va_D A ([(rf_MO mo mw ma mf m0 m1 mu mv u0 u1 iz th1_8 mb mn mpt mbg mwr mwk mlf y_14), (rf_RW ct 0 mw 958 f_15)] ++ ws) := ty_permD hD (ty_ordp (E := [(rf_RW ct 0 mw 958 f_15), (rf_MO mo mw ma mf m0 m1 mu mv u0 u1 iz th1_8 mb mn mpt mbg mwr mwk mlf y_14)]) (E2 := [(rf_MO mo mw ma mf m0 m1 mu mv u0 u1 iz th1_8 mb mn mpt mbg mwr mwk mlf y_14), (rf_RW ct 0 mw 958 f_15)]) (n := 2) [1, 0] rfl rfl (by decide))
          exact W.iret (v := y_14) hx hb hr (fun t ht hW => ⟨⟨y_14, (ws, y_14, th1_8, f_15), rfl, ⟨hT, ⟨(rf_adT (rf_rngc (L := 1) (U := 5000) (by decide) (by decide) hc_4) hc_12 hex_57 hc_16 hD_57), hR_57⟩⟩, by rw [ht]; exact hP, by rw [hAe]; exact hD⟩, hS.F ht⟩) hS.2.2 dX11_advance_76
        · refine lv_aload_n hx hb dX11_advance_62 rfl (lv_at hl 0 rfl) ?_
          have hP : va_P D vwCl ([(rf_MO mo mw ma mf m0 m1 mu mv u0 u1 iz th1_8 mb mn mpt mbg mwr mwk mlf y_14), (rf_RW ct 0 mw 958 f_15)] ++ ws) H := ty_permP hP (ty_ordp (E := [(rf_RW ct 0 mw 958 f_15), (rf_MO mo mw ma mf m0 m1 mu mv u0 u1 iz th1_8 mb mn mpt mbg mwr mwk mlf y_14)]) (E2 := [(rf_MO mo mw ma mf m0 m1 mu mv u0 u1 iz th1_8 mb mn mpt mbg mwr mwk mlf y_14), (rf_RW ct 0 mw 958 f_15)]) (n := 2) [1, 0] rfl rfl (by decide))
          have hD : va_D A ([(rf_MO mo mw ma mf m0 m1 mu mv u0 u1 iz th1_8 mb mn mpt mbg mwr mwk mlf y_14), (rf_RW ct 0 mw 958 f_15)] ++ ws) := ty_permD hD (ty_ordp (E := [(rf_RW ct 0 mw 958 f_15), (rf_MO mo mw ma mf m0 m1 mu mv u0 u1 iz th1_8 mb mn mpt mbg mwr mwk mlf y_14)]) (E2 := [(rf_MO mo mw ma mf m0 m1 mu mv u0 u1 iz th1_8 mb mn mpt mbg mwr mwk mlf y_14), (rf_RW ct 0 mw 958 f_15)]) (n := 2) [1, 0] rfl rfl (by decide))
          refine ty_kv (wr := []) (wc := ([(rf_MO mo mw ma mf m0 m1 mu mv u0 u1 iz th1_8 mb mn mpt mbg mwr mwk mlf y_14), (rf_RW ct 0 mw 958 f_15)] ++ ws)) (va_runV (As := []) (rest := []) ⟨hx, hb, hml, hown, hts⟩ (m_X11_ticks l D ct S ws ph xx mo mw ma mf m0 m1 mu mv u0 u1 iz mb th1_8 mn mpt mbg mwr mwk mlf y_14 f_15 G _ hT h_mu h_mv h_u0 h_u1 hph hy1 hy11 hR_57) (cm_V 0 hts kc_X11_ticks ki_RX11 kl_RX11_341 kv_X11_ticks kx_X11_ticks kd_X11_ticks ⟨Nat.le_of_ble_eq_true rfl, Nat.le_of_ble_eq_true rfl⟩) (ty_preE (wr := []) (wc := ([(rf_MO mo mw ma mf m0 m1 mu mv u0 u1 iz th1_8 mb mn mpt mbg mwr mwk mlf y_14), (rf_RW ct 0 mw 958 f_15)] ++ ws)) (ci := 11) (q0 := 0) hP hK hD hS hA hX rfl rfl) rfl rfl hl.1 rfl (lv_room (Nat.le_of_ble_eq_true rfl)) dX11_advance_63 ⟨Nat.le_of_ble_eq_true rfl, Nat.le_of_ble_eq_true rfl⟩) hP hD hS hA (fun u H locs hw_18 hP hD hS => ?_)
          obtain ⟨ws_19, men1_20, f1_21⟩ := u
          obtain ⟨hT, hp_22⟩ := hw_18
          have hp_22 : rf_d ((f_15 8) + 1) f_15 f1_21 ∧ rf_R G (-1) f1_21 := hp_22
          obtain ⟨hd_23, hq_24⟩ := hp_22
          have hD_25 := rf_d1 hD_57 hd_23
          have hR_26 := hq_24
          have hP : va_P D vwCl ([(rf_MO mo mw ma mf m0 m1 mu mv u0 u1 iz th1_8 mb mn mpt mbg mwr mwk mlf men1_20), (rf_RW ct 0 mw 958 f1_21)] ++ ws_19) H := hP
          have hD : va_D A ([(rf_MO mo mw ma mf m0 m1 mu mv u0 u1 iz th1_8 mb mn mpt mbg mwr mwk mlf men1_20), (rf_RW ct 0 mw 958 f1_21)] ++ ws_19) := hD
          refine lv_iinc (v := (y_13 + Int32.ofInt 1)) (lv' := [(2, .int (y_13 + Int32.ofInt 1)), (0, .ref mo), (1, .int p1)]) hx hb dX11_advance_66 hl (k := 2) rfl rfl (by decide) rfl (fun ls hl => ?_)
          refine lv_goto (tgt := 57) hx hb dX11_advance_69 (by decide) ?_
          have hP : va_P D vwCl ([(rf_RW ct 0 mw 958 f1_21), (rf_MO mo mw ma mf m0 m1 mu mv u0 u1 iz th1_8 mb mn mpt mbg mwr mwk mlf men1_20)] ++ ws_19) H := ty_permP hP (ty_ordp (E := [(rf_MO mo mw ma mf m0 m1 mu mv u0 u1 iz th1_8 mb mn mpt mbg mwr mwk mlf men1_20), (rf_RW ct 0 mw 958 f1_21)]) (E2 := [(rf_RW ct 0 mw 958 f1_21), (rf_MO mo mw ma mf m0 m1 mu mv u0 u1 iz th1_8 mb mn mpt mbg mwr mwk mlf men1_20)]) (n := 2) [1, 0] rfl rfl (by decide))
          have hD : va_D A ([(rf_RW ct 0 mw 958 f1_21), (rf_MO mo mw ma mf m0 m1 mu mv u0 u1 iz th1_8 mb mn mpt mbg mwr mwk mlf men1_20)] ++ ws_19) := ty_permD hD (ty_ordp (E := [(rf_MO mo mw ma mf m0 m1 mu mv u0 u1 iz th1_8 mb mn mpt mbg mwr mwk mlf men1_20), (rf_RW ct 0 mw 958 f1_21)]) (E2 := [(rf_RW ct 0 mw 958 f1_21), (rf_MO mo mw ma mf m0 m1 mu mv u0 u1 iz th1_8 mb mn mpt mbg mwr mwk mlf men1_20)]) (n := 2) [1, 0] rfl rfl (by decide))
          exact ih_57 _ _ _ _ (ty_inc (cm_lt hc_16)) ⟨ws_19, (y_13 + Int32.ofInt 1), men1_20, f1_21, rfl, hT, hP, hD, hS, (lv_sub hl [1, 2, 0] rfl), hR_26, (rf_da1 hD_25), (rf_ad1 hex_57 hc_16)⟩
      · refine lv_bipush (v := (-2)) hx hb dX11_advance_47 (by decide) ?_
        have hP : va_P D vwCl ([(rf_MO mo mw ma mf m0 m1 mu mv u0 u1 iz th1_8 mb mn mpt mbg mwr mwk mlf men), (rf_RW ct 0 mw 958 f)] ++ ws_7) H := ty_permP hP (ty_ordp (E := [(rf_RW ct 0 mw 958 f), (rf_MO mo mw ma mf m0 m1 mu mv u0 u1 iz th1_8 mb mn mpt mbg mwr mwk mlf men)]) (E2 := [(rf_MO mo mw ma mf m0 m1 mu mv u0 u1 iz th1_8 mb mn mpt mbg mwr mwk mlf men), (rf_RW ct 0 mw 958 f)]) (n := 2) [1, 0] rfl rfl (by decide))
        have hD : va_D A ([(rf_MO mo mw ma mf m0 m1 mu mv u0 u1 iz th1_8 mb mn mpt mbg mwr mwk mlf men), (rf_RW ct 0 mw 958 f)] ++ ws_7) := ty_permD hD (ty_ordp (E := [(rf_RW ct 0 mw 958 f), (rf_MO mo mw ma mf m0 m1 mu mv u0 u1 iz th1_8 mb mn mpt mbg mwr mwk mlf men)]) (E2 := [(rf_MO mo mw ma mf m0 m1 mu mv u0 u1 iz th1_8 mb mn mpt mbg mwr mwk mlf men), (rf_RW ct 0 mw 958 f)]) (n := 2) [1, 0] rfl rfl (by decide))
        exact W.iret (v := (-2)) hx hb hr (fun t ht hW => ⟨⟨(-2), (ws_7, men, th1_8, f), rfl, ⟨hT, ⟨(rf_adF hc_12 (rf_dr f)), hR⟩⟩, by rw [ht]; exact hP, by rw [hAe]; exact hD⟩, hS.F ht⟩) hS.2.2 dX11_advance_49
    · exact absurd rfl hz_11.1
  · refine lv_iconst (v := 1) hx hb dX11_advance_18 (by decide) ?_
    refine lv_goto (tgt := 23) hx hb dX11_advance_19 (by decide) ?_
    refine lv_iconst (v := 1) hx hb dX11_advance_23 (by decide) ?_
    have hP : va_P D vwCl ([(rf_RW ct 0 mw 958 f), (rf_MO mo mw ma mf m0 m1 mu mv u0 u1 iz (0) mb mn mpt mbg mwr mwk mlf men)] ++ ws_3) H := ty_permP hP (ty_ordp (E := [(rf_MO mo mw ma mf m0 m1 mu mv u0 u1 iz (0) mb mn mpt mbg mwr mwk mlf men), (rf_RW ct 0 mw 958 f)]) (E2 := [(rf_RW ct 0 mw 958 f), (rf_MO mo mw ma mf m0 m1 mu mv u0 u1 iz (0) mb mn mpt mbg mwr mwk mlf men)]) (n := 2) [1, 0] rfl rfl (by decide))
    have hD : va_D A ([(rf_RW ct 0 mw 958 f), (rf_MO mo mw ma mf m0 m1 mu mv u0 u1 iz (0) mb mn mpt mbg mwr mwk mlf men)] ++ ws_3) := ty_permD hD (ty_ordp (E := [(rf_MO mo mw ma mf m0 m1 mu mv u0 u1 iz (0) mb mn mpt mbg mwr mwk mlf men), (rf_RW ct 0 mw 958 f)]) (E2 := [(rf_RW ct 0 mw 958 f), (rf_MO mo mw ma mf m0 m1 mu mv u0 u1 iz (0) mb mn mpt mbg mwr mwk mlf men)]) (n := 2) [1, 0] rfl rfl (by decide))
    refine ty_ki (wr := [(rf_RW ct 0 mw 958 f)]) (wc := ([(rf_MO mo mw ma mf m0 m1 mu mv u0 u1 iz (0) mb mn mpt mbg mwr mwk mlf men)] ++ ws_3)) (va_runV (As := [.int 1, .int 1]) (rest := []) ⟨hx, hb, hml, hown, hts⟩ (m_throwsIf_0 l D ct S ws_3 ph xx mo mw ma mf m0 m1 mu mv u0 u1 iz mb mn mpt mbg mwr mwk mlf men (1 : Int32) (1 : Int32) _ hT h_mu h_mv h_u0 h_u1 hph hy1 (by decide)) (cm_V 2 hts kc_X11_throwsIf ki_RX11 kl_RX11_328 kv_X11_throwsIf kx_X11_throwsIf kd_X11_throwsIf ⟨Nat.le_of_ble_eq_true rfl, Nat.le_of_ble_eq_true rfl⟩) (ty_preE (wr := [(rf_RW ct 0 mw 958 f)]) (wc := ([(rf_MO mo mw ma mf m0 m1 mu mv u0 u1 iz (0) mb mn mpt mbg mwr mwk mlf men)] ++ ws_3)) (ci := 11) (q0 := 1) hP hK hD hS hA hX rfl rfl) rfl rfl hl.1 rfl (lv_room (Nat.le_of_ble_eq_true rfl)) dX11_advance_24 ⟨Nat.le_of_ble_eq_true rfl, Nat.le_of_ble_eq_true rfl⟩) hP hD hS hA (fun r_28 u H locs hw_29 hP hD hS => ?_)
    obtain ⟨ws_30, th1_31⟩ := u
    obtain ⟨hT, hp_32⟩ := hw_29
    have hp_32 : ((r_28 = 0 ∧ (1 : Int32) = 0 ∧ th1_31 = 0) ∨ (r_28 = 1 ∧ ¬ (1 : Int32) = 0 ∧ th1_31 = (1 : Int32))) := hp_32
    have hP : va_P D vwCl ([(rf_RW ct 0 mw 958 f), (rf_MO mo mw ma mf m0 m1 mu mv u0 u1 iz th1_31 mb mn mpt mbg mwr mwk mlf men)] ++ ws_30) H := hP
    have hD : va_D A ([(rf_RW ct 0 mw 958 f), (rf_MO mo mw ma mf m0 m1 mu mv u0 u1 iz th1_31 mb mn mpt mbg mwr mwk mlf men)] ++ ws_30) := hD
    rcases hp_32 with ⟨rfl, hz_33⟩ | ⟨rfl, hz_34⟩
    · exact absurd hz_33.1 (by decide)
    · refine lv_if_eq (tgt := 32) hx hb dX11_advance_27 (by decide) (fun hc => absurd hc (by decide)) (fun _ => ?_)
      refine lv_iconst (v := 0) hx hb dX11_advance_30 (by decide) ?_
      have hP : va_P D vwCl ([(rf_MO mo mw ma mf m0 m1 mu mv u0 u1 iz th1_31 mb mn mpt mbg mwr mwk mlf men), (rf_RW ct 0 mw 958 f)] ++ ws_30) H := ty_permP hP (ty_ordp (E := [(rf_RW ct 0 mw 958 f), (rf_MO mo mw ma mf m0 m1 mu mv u0 u1 iz th1_31 mb mn mpt mbg mwr mwk mlf men)]) (E2 := [(rf_MO mo mw ma mf m0 m1 mu mv u0 u1 iz th1_31 mb mn mpt mbg mwr mwk mlf men), (rf_RW ct 0 mw 958 f)]) (n := 2) [1, 0] rfl rfl (by decide))
      have hD : va_D A ([(rf_MO mo mw ma mf m0 m1 mu mv u0 u1 iz th1_31 mb mn mpt mbg mwr mwk mlf men), (rf_RW ct 0 mw 958 f)] ++ ws_30) := ty_permD hD (ty_ordp (E := [(rf_RW ct 0 mw 958 f), (rf_MO mo mw ma mf m0 m1 mu mv u0 u1 iz th1_31 mb mn mpt mbg mwr mwk mlf men)]) (E2 := [(rf_MO mo mw ma mf m0 m1 mu mv u0 u1 iz th1_31 mb mn mpt mbg mwr mwk mlf men), (rf_RW ct 0 mw 958 f)]) (n := 2) [1, 0] rfl rfl (by decide))
      exact W.iret (v := 0) hx hb hr (fun t ht hW => ⟨⟨0, (ws_30, men, th1_31, f), rfl, ⟨hT, ⟨(rf_adX (rf_rngn (L := 1) (U := 5000) (by decide) (by decide) hc_4) (rf_dr f)), hR⟩⟩, by rw [ht]; exact hP, by rw [hAe]; exact hD⟩, hS.F ht⟩) hS.2.2 dX11_advance_31
theorem dX11_start_0 : decode cX11_start 0 = .ok (.aload_n 0, 1) := by decide +kernel
theorem dX11_start_1 : decode cX11_start 1 = .ok (.iload_n 1, 1) := by decide +kernel
theorem dX11_start_2 : decode cX11_start 2 = .ok (.iload_n 2, 1) := by decide +kernel
theorem dX11_start_3 : decode cX11_start 3 = .ok (.invokevirtual 347, 3) := by decide +kernel
theorem dX11_start_6 : decode cX11_start 6 = .ok (.ifCond .eq 5, 3) := by decide +kernel
theorem dX11_start_9 : decode cX11_start 9 = .ok (.iconst 0, 1) := by decide +kernel
theorem dX11_start_10 : decode cX11_start 10 = .ok (.ireturn, 1) := by decide +kernel
theorem dX11_start_11 : decode cX11_start 11 = .ok (.aload_n 0, 1) := by decide +kernel
theorem dX11_start_12 : decode cX11_start 12 = .ok (.iload_n 1, 1) := by decide +kernel
theorem dX11_start_13 : decode cX11_start 13 = .ok (.iconst 0, 1) := by decide +kernel
theorem dX11_start_14 : decode cX11_start 14 = .ok (.invokevirtual 350, 3) := by decide +kernel
theorem dX11_start_17 : decode cX11_start 17 = .ok (.ifCond .ne 15, 3) := by decide +kernel
theorem dX11_start_20 : decode cX11_start 20 = .ok (.aload_n 0, 1) := by decide +kernel
theorem dX11_start_21 : decode cX11_start 21 = .ok (.iload_n 1, 1) := by decide +kernel
theorem dX11_start_22 : decode cX11_start 22 = .ok (.iconst 3, 1) := by decide +kernel
theorem dX11_start_23 : decode cX11_start 23 = .ok (.invokevirtual 350, 3) := by decide +kernel
theorem dX11_start_26 : decode cX11_start 26 = .ok (.ifCond .ne 6, 3) := by decide +kernel
theorem dX11_start_29 : decode cX11_start 29 = .ok (.bipush (-3), 2) := by decide +kernel
theorem dX11_start_31 : decode cX11_start 31 = .ok (.ireturn, 1) := by decide +kernel
theorem dX11_start_32 : decode cX11_start 32 = .ok (.aload_n 0, 1) := by decide +kernel
theorem dX11_start_33 : decode cX11_start 33 = .ok (.iload_n 1, 1) := by decide +kernel
theorem dX11_start_34 : decode cX11_start 34 = .ok (.iload_n 2, 1) := by decide +kernel
theorem dX11_start_35 : decode cX11_start 35 = .ok (.invokevirtual 288, 3) := by decide +kernel
theorem dX11_start_38 : decode cX11_start 38 = .ok (.iconst 0, 1) := by decide +kernel
theorem dX11_start_39 : decode cX11_start 39 = .ok (.istore_n 3, 1) := by decide +kernel
theorem dX11_start_40 : decode cX11_start 40 = .ok (.iconst 0, 1) := by decide +kernel
theorem dX11_start_41 : decode cX11_start 41 = .ok (.istore 4, 2) := by decide +kernel
theorem dX11_start_43 : decode cX11_start 43 = .ok (.iload 4, 2) := by decide +kernel
theorem dX11_start_45 : decode cX11_start 45 = .ok (.aload_n 0, 1) := by decide +kernel
theorem dX11_start_46 : decode cX11_start 46 = .ok (.getfield 9, 3) := by decide +kernel
theorem dX11_start_49 : decode cX11_start 49 = .ok (.bipush 9, 2) := by decide +kernel
theorem dX11_start_51 : decode cX11_start 51 = .ok (.iaload, 1) := by decide +kernel
theorem dX11_start_52 : decode cX11_start 52 = .ok (.if_icmp .ge 27, 3) := by decide +kernel
theorem dX11_start_55 : decode cX11_start 55 = .ok (.iload_n 3, 1) := by decide +kernel
theorem dX11_start_56 : decode cX11_start 56 = .ok (.aload_n 0, 1) := by decide +kernel
theorem dX11_start_57 : decode cX11_start 57 = .ok (.iload 4, 2) := by decide +kernel
theorem dX11_start_59 : decode cX11_start 59 = .ok (.iconst 1, 1) := by decide +kernel
theorem dX11_start_60 : decode cX11_start 60 = .ok (.invokevirtual 350, 3) := by decide +kernel
theorem dX11_start_63 : decode cX11_start 63 = .ok (.ifCond .eq 7, 3) := by decide +kernel
theorem dX11_start_66 : decode cX11_start 66 = .ok (.iconst 1, 1) := by decide +kernel
theorem dX11_start_67 : decode cX11_start 67 = .ok (.goto 4, 3) := by decide +kernel
theorem dX11_start_70 : decode cX11_start 70 = .ok (.iconst 0, 1) := by decide +kernel
theorem dX11_start_71 : decode cX11_start 71 = .ok (.iadd, 1) := by decide +kernel
theorem dX11_start_72 : decode cX11_start 72 = .ok (.istore_n 3, 1) := by decide +kernel
theorem dX11_start_73 : decode cX11_start 73 = .ok (.iinc 4 1, 3) := by decide +kernel
theorem dX11_start_76 : decode cX11_start 76 = .ok (.goto (-33), 3) := by decide +kernel
theorem dX11_start_79 : decode cX11_start 79 = .ok (.iload_n 3, 1) := by decide +kernel
theorem dX11_start_80 : decode cX11_start 80 = .ok (.ireturn, 1) := by decide +kernel
set_option maxRecDepth 100000 in
set_option maxHeartbeats 4000000 in
theorem m_X11_start (l : Launch) (D : va_G) (ct : Nat → ClassId) (S : ty_S) (ws : va_W) (ph : va_W → Prop) (xx : Nat → Nat → Nat → Prop) (mo : Nat) (mw : Nat) (ma : Nat) (mf : Nat) (m0 : Nat) (m1 : Nat) (mu : Nat) (mv : Nat) (u0 : Nat) (u1 : Nat) (iz : Nat) (mb : Nat) (th : Int32) (mn : Int32) (mpt : Int32) (mbg : Int32) (mwr : Int32) (mwk : Int32) (mlf : Int32) (men : Int32) (f : Nat → Int32) (G : Nat → Int32) (p1 : Int32) (p2 : Int32) (sz : Nat) (hT : ty_V ct S ph ws) (h_mu : S mu = some (.inr (1, 42))) (h_mv : S mv = some (.inr (1, 42))) (h_u0 : S u0 = some (.inr (1, 42))) (h_u1 : S u1 = some (.inr (1, 42))) (hph : ty_C ph xx) (hy1 : ty_y1 xx) (hy11 : ty_y0 xx 11) (hR : rf_R G (-1) f) : Met l yX11_start (ws_ yX11_start cX11_start 5 (some .int)) ({ frames := 3, cells := 0, slots := 0, locals := 72 } : Room) (va_Pc [.ref mo, .int p1, .int p2] (cmP D ct sz ([(rf_MO mo mw ma mf m0 m1 mu mv u0 u1 iz th mb mn mpt mbg mwr mwk mlf men), (rf_RW ct 0 mw 958 f)] ++ ws))) (va_Qi (fun (r : Int32) (u : va_W × Int32 × (Nat → Int32)) => match u with | (u9, th1, f1) => ty_V ct S ph u9 ∧ rf_d (f 8) f f1 ∧ rf_R G (-1) f1) (cmB D ([(rf_MO mo mw ma mf m0 m1 mu mv u0 u1 iz th mb mn mpt mbg mwr mwk mlf men), (rf_RW ct 0 mw 958 f)] ++ ws) sz (fun (u : va_W × Int32 × (Nat → Int32)) => match u with | (u9, th1, f1) => ([(rf_MO mo mw ma mf m0 m1 mu mv u0 u1 iz th1 mb mn mpt mbg mwr mwk mlf men), (rf_RW ct 0 mw 958 f1)] ++ u9))) (va_A ([(rf_MO mo mw ma mf m0 m1 mu mv u0 u1 iz th mb mn mpt mbg mwr mwk mlf men), (rf_RW ct 0 mw 958 f)] ++ ws) sz)) 0 0 (va_A ([(rf_MO mo mw ma mf m0 m1 mu mv u0 u1 iz th mb mn mpt mbg mwr mwk mlf men), (rf_RW ct 0 mw 958 f)] ++ ws) sz) := by
  refine Met.ofW (cc := cX11_start) (maxL := 5) (ret := (some .int)) (by decide) rfl ?_
  intro p e s m args below meth c s₁ B hml hv
  obtain ⟨rfl, hsz, hP, hK, hD0, hX⟩ := hv
  have hx := B.exec
  have hb := B.bytes
  have hr := B.returns
  have hts := ws_all (atoms_spec (ws := ws_ yX11_start cX11_start 5 (some .int)) B.pre)
  have hown : s.vm.findClass RX11 = some m.cls := findClass_of_methodNamed B.named
  have hlocks := B.notSynchronized
  subst hsz
  have hD := hD0.self (sz := s.heap.size)
  generalize hAe : va_A ([(rf_MO mo mw ma mf m0 m1 mu mv u0 u1 iz th mb mn mpt mbg mwr mwk mlf men), (rf_RW ct 0 mw 958 f)] ++ ws) s.heap.size = A at hD hX ⊢
  have hA : ∀ q : Nat, s.heap.size ≤ q → A q := fun q h => by rw [← hAe]; exact Or.inr h
  have hS : va_S A s.heap s.heap [] := va_S.rf
  have hl := lv_entry ([.ref mo, .int p1, .int p2]) (n := 5) (Nat.le_of_ble_eq_true rfl)
  rw [lg_entry_eq]
  generalize (lg_sl ([.ref mo, .int p1, .int p2]) ++ List.replicate (5 - (lg_sl ([.ref mo, .int p1, .int p2])).length) Slot.unset).toArray = ls at hl ⊢
  have hl : lv_has ls 5 [(0, .ref mo), (1, .int p1), (2, .int p2)] := hl
  refine lv_aload_n hx hb dX11_start_0 rfl (lv_at hl 0 rfl) ?_
  refine lv_iload_n hx hb dX11_start_1 rfl (lv_at hl 1 rfl) ?_
  refine lv_iload_n hx hb dX11_start_2 rfl (lv_at hl 2 rfl) ?_
  refine ty_ki (wr := []) (wc := ([(rf_MO mo mw ma mf m0 m1 mu mv u0 u1 iz th mb mn mpt mbg mwr mwk mlf men), (rf_RW ct 0 mw 958 f)] ++ ws)) (va_runV (As := [.int p1, .int p2]) (rest := []) ⟨hx, hb, hml, hown, hts⟩ (m_X11_noProgram l D ct S ws ph xx mo mw ma mf m0 m1 mu mv u0 u1 iz mb th mn mpt mbg mwr mwk mlf men f G (-1) p1 p2 _ hT h_mu h_mv h_u0 h_u1 hph hy1 hR) (cm_V 2 hts kc_X11_noProgram ki_RX11 kl_RX11_347 kv_X11_noProgram kx_X11_noProgram kd_X11_noProgram ⟨Nat.le_of_ble_eq_true rfl, Nat.le_of_ble_eq_true rfl⟩) (ty_preE (wr := []) (wc := ([(rf_MO mo mw ma mf m0 m1 mu mv u0 u1 iz th mb mn mpt mbg mwr mwk mlf men), (rf_RW ct 0 mw 958 f)] ++ ws)) (ci := 11) (q0 := 0) hP hK hD hS hA hX rfl rfl) rfl rfl hl.1 rfl (lv_room (Nat.le_of_ble_eq_true rfl)) dX11_start_3 ⟨Nat.le_of_ble_eq_true rfl, Nat.le_of_ble_eq_true rfl⟩) hP hD hS hA (fun r_1 u H locs hw_2 hP hD hS => ?_)
  obtain ⟨ws_3, th1_4⟩ := u
  obtain ⟨hT, hp_5⟩ := hw_2
  have hp_5 : ((r_1 = 0 ∧ (0 ≤ p1.toInt ∧ p1.toInt < (G 9).toInt) ∧ 0 ≤ p2.toInt ∧ p2.toInt < (G 10).toInt) ∨ r_1 = 1) := hp_5
  have hP : va_P D vwCl ([(rf_MO mo mw ma mf m0 m1 mu mv u0 u1 iz th1_4 mb mn mpt mbg mwr mwk mlf men), (rf_RW ct 0 mw 958 f)] ++ ws_3) H := hP
  have hD : va_D A ([(rf_MO mo mw ma mf m0 m1 mu mv u0 u1 iz th1_4 mb mn mpt mbg mwr mwk mlf men), (rf_RW ct 0 mw 958 f)] ++ ws_3) := hD
  rcases hp_5 with ⟨rfl, hz_6⟩ | rfl
  · refine lv_if_eq (tgt := 11) hx hb dX11_start_6 (by decide) (fun _ => ?_) (fun hc => absurd (by decide) hc)
    refine lv_aload_n hx hb dX11_start_11 rfl (lv_at hl 0 rfl) ?_
    refine lv_iload_n hx hb dX11_start_12 rfl (lv_at hl 1 rfl) ?_
    refine lv_iconst (v := 0) hx hb dX11_start_13 (by decide) ?_
    refine ty_ki (wr := []) (wc := ([(rf_MO mo mw ma mf m0 m1 mu mv u0 u1 iz th1_4 mb mn mpt mbg mwr mwk mlf men), (rf_RW ct 0 mw 958 f)] ++ ws_3)) (va_runV (As := [.int p1, .int 0]) (rest := []) ⟨hx, hb, hml, hown, hts⟩ (m_X11_isIn l D ct S ws_3 ph xx mo mw ma mf m0 m1 mu mv u0 u1 iz mb th1_4 mn mpt mbg mwr mwk mlf men f G (-1) p1 (0 : Int32) _ hT h_mu h_mv h_u0 h_u1 hph hy1 hR hz_6.1) (cm_V 2 hts kc_X11_isIn ki_RX11 kl_RX11_350 kv_X11_isIn kx_X11_isIn kd_X11_isIn ⟨Nat.le_of_ble_eq_true rfl, Nat.le_of_ble_eq_true rfl⟩) (ty_preE (wr := []) (wc := ([(rf_MO mo mw ma mf m0 m1 mu mv u0 u1 iz th1_4 mb mn mpt mbg mwr mwk mlf men), (rf_RW ct 0 mw 958 f)] ++ ws_3)) (ci := 11) (q0 := 0) hP hK hD hS hA hX rfl rfl) rfl rfl hl.1 rfl (lv_room (Nat.le_of_ble_eq_true rfl)) dX11_start_14 ⟨Nat.le_of_ble_eq_true rfl, Nat.le_of_ble_eq_true rfl⟩) hP hD hS hA (fun r_7 u H locs hw_8 hP hD hS => ?_)
    obtain ⟨ws_9, rfl⟩ : ∃ z, z = u := ⟨_, rfl⟩
    obtain ⟨hT, hp_10⟩ := hw_8
    have hp_10 : ((r_7 = 0 ∧ ¬ rf_of f p1 0 = (0 : Int32)) ∨ (r_7 = 1 ∧ rf_of f p1 0 = (0 : Int32))) := hp_10
    have hP : va_P D vwCl ([(rf_MO mo mw ma mf m0 m1 mu mv u0 u1 iz th1_4 mb mn mpt mbg mwr mwk mlf men), (rf_RW ct 0 mw 958 f)] ++ ws_9) H := hP
    have hD : va_D A ([(rf_MO mo mw ma mf m0 m1 mu mv u0 u1 iz th1_4 mb mn mpt mbg mwr mwk mlf men), (rf_RW ct 0 mw 958 f)] ++ ws_9) := hD
    rcases hp_10 with ⟨rfl, hz_11⟩ | ⟨rfl, hz_12⟩
    · refine lv_if_ne (tgt := 32) hx hb dX11_start_17 (by decide) (fun hc => absurd (by decide) hc) (fun _ => ?_)
      refine lv_aload_n hx hb dX11_start_20 rfl (lv_at hl 0 rfl) ?_
      refine lv_iload_n hx hb dX11_start_21 rfl (lv_at hl 1 rfl) ?_
      refine lv_iconst (v := 3) hx hb dX11_start_22 (by decide) ?_
      refine ty_ki (wr := []) (wc := ([(rf_MO mo mw ma mf m0 m1 mu mv u0 u1 iz th1_4 mb mn mpt mbg mwr mwk mlf men), (rf_RW ct 0 mw 958 f)] ++ ws_9)) (va_runV (As := [.int p1, .int 3]) (rest := []) ⟨hx, hb, hml, hown, hts⟩ (m_X11_isIn l D ct S ws_9 ph xx mo mw ma mf m0 m1 mu mv u0 u1 iz mb th1_4 mn mpt mbg mwr mwk mlf men f G (-1) p1 (3 : Int32) _ hT h_mu h_mv h_u0 h_u1 hph hy1 hR hz_6.1) (cm_V 2 hts kc_X11_isIn ki_RX11 kl_RX11_350 kv_X11_isIn kx_X11_isIn kd_X11_isIn ⟨Nat.le_of_ble_eq_true rfl, Nat.le_of_ble_eq_true rfl⟩) (ty_preE (wr := []) (wc := ([(rf_MO mo mw ma mf m0 m1 mu mv u0 u1 iz th1_4 mb mn mpt mbg mwr mwk mlf men), (rf_RW ct 0 mw 958 f)] ++ ws_9)) (ci := 11) (q0 := 0) hP hK hD hS hA hX rfl rfl) rfl rfl hl.1 rfl (lv_room (Nat.le_of_ble_eq_true rfl)) dX11_start_23 ⟨Nat.le_of_ble_eq_true rfl, Nat.le_of_ble_eq_true rfl⟩) hP hD hS hA (fun r_13 u H locs hw_14 hP hD hS => ?_)
      obtain ⟨ws_15, rfl⟩ : ∃ z, z = u := ⟨_, rfl⟩
      obtain ⟨hT, hp_16⟩ := hw_14
      have hp_16 : ((r_13 = 0 ∧ ¬ rf_of f p1 0 = (3 : Int32)) ∨ (r_13 = 1 ∧ rf_of f p1 0 = (3 : Int32))) := hp_16
      have hP : va_P D vwCl ([(rf_MO mo mw ma mf m0 m1 mu mv u0 u1 iz th1_4 mb mn mpt mbg mwr mwk mlf men), (rf_RW ct 0 mw 958 f)] ++ ws_15) H := hP
      have hD : va_D A ([(rf_MO mo mw ma mf m0 m1 mu mv u0 u1 iz th1_4 mb mn mpt mbg mwr mwk mlf men), (rf_RW ct 0 mw 958 f)] ++ ws_15) := hD
      rcases hp_16 with ⟨rfl, hz_17⟩ | ⟨rfl, hz_18⟩
      · refine lv_if_ne (tgt := 32) hx hb dX11_start_26 (by decide) (fun hc => absurd (by decide) hc) (fun _ => ?_)
        refine lv_bipush (v := (-3)) hx hb dX11_start_29 (by decide) ?_
        exact W.iret (v := (-3)) hx hb hr (fun t ht hW => ⟨⟨(-3), (ws_15, th1_4, f), rfl, ⟨hT, ⟨(rf_dr f), hR⟩⟩, by rw [ht]; exact hP, by rw [hAe]; exact hD⟩, hS.F ht⟩) hS.2.2 dX11_start_31
      · refine lv_if_ne (tgt := 32) hx hb dX11_start_26 (by decide) (fun _ => ?_) (fun hc => absurd hc (by decide))
        refine lv_aload_n hx hb dX11_start_32 rfl (lv_at hl 0 rfl) ?_
        refine lv_iload_n hx hb dX11_start_33 rfl (lv_at hl 1 rfl) ?_
        refine lv_iload_n hx hb dX11_start_34 rfl (lv_at hl 2 rfl) ?_
        refine ty_kv (wr := []) (wc := ([(rf_MO mo mw ma mf m0 m1 mu mv u0 u1 iz th1_4 mb mn mpt mbg mwr mwk mlf men), (rf_RW ct 0 mw 958 f)] ++ ws_15)) (va_runV (As := [.int p1, .int p2]) (rest := []) ⟨hx, hb, hml, hown, hts⟩ (m_X11_startsOn l D ct S ws_15 ph xx mo mw ma mf m0 m1 mu mv u0 u1 iz mb th1_4 mn mpt mbg mwr mwk mlf men f G (-1) p1 p2 _ hT h_mu h_mv h_u0 h_u1 hph hy1 hy11 hR hz_6.1 (Or.inl rfl) hz_6.2) (cm_V 2 hts kc_X11_startsOn ki_RX11 kl_RX11_288 kv_X11_startsOn kx_X11_startsOn kd_X11_startsOn ⟨Nat.le_of_ble_eq_true rfl, Nat.le_of_ble_eq_true rfl⟩) (ty_preE (wr := []) (wc := ([(rf_MO mo mw ma mf m0 m1 mu mv u0 u1 iz th1_4 mb mn mpt mbg mwr mwk mlf men), (rf_RW ct 0 mw 958 f)] ++ ws_15)) (ci := 11) (q0 := 0) hP hK hD hS hA hX rfl rfl) rfl rfl hl.1 rfl (lv_room (Nat.le_of_ble_eq_true rfl)) dX11_start_35 ⟨Nat.le_of_ble_eq_true rfl, Nat.le_of_ble_eq_true rfl⟩) hP hD hS hA (fun u H locs hw_20 hP hD hS => ?_)
        obtain ⟨ws_21, f1_22⟩ := u
        obtain ⟨hT, hp_23⟩ := hw_20
        have hp_23 : rf_d (f 8) f f1_22 ∧ rf_R G (-1) f1_22 := hp_23
        obtain ⟨hd_24, hq_25⟩ := hp_23
        have hD_26 := rf_dt (rf_dr f) hd_24
        have hR_27 := hq_25
        have hP : va_P D vwCl ([(rf_MO mo mw ma mf m0 m1 mu mv u0 u1 iz th1_4 mb mn mpt mbg mwr mwk mlf men), (rf_RW ct 0 mw 958 f1_22)] ++ ws_21) H := hP
        have hD : va_D A ([(rf_MO mo mw ma mf m0 m1 mu mv u0 u1 iz th1_4 mb mn mpt mbg mwr mwk mlf men), (rf_RW ct 0 mw 958 f1_22)] ++ ws_21) := hD
        refine lv_iconst (v := 0) hx hb dX11_start_38 (by decide) ?_
        refine lv_istore_n (lv' := [(3, .int 0), (0, .ref mo), (1, .int p1), (2, .int p2)]) hx hb dX11_start_39 rfl hl (by decide) rfl (fun ls hl => ?_)
        refine lv_iconst (v := 0) hx hb dX11_start_40 (by decide) ?_
        refine lv_istore (lv' := [(4, .int 0), (3, .int 0), (0, .ref mo), (1, .int p1), (2, .int p2)]) hx hb dX11_start_41 hl (by decide) rfl (fun ls hl => ?_)
        refine ty_loop (I := fun μ H locs ls => ∃ (ws : va_W) (y_29 : Int32) (y_30 : Int32), μ = (2147483648 - y_30.toInt).toNat ∧ ty_V ct S ph ws ∧ va_P D vwCl ([(rf_MO mo mw ma mf m0 m1 mu mv u0 u1 iz th1_4 mb mn mpt mbg mwr mwk mlf men), (rf_RW ct 0 mw 958 f1_22)] ++ ws) H ∧ va_D A ([(rf_MO mo mw ma mf m0 m1 mu mv u0 u1 iz th1_4 mb mn mpt mbg mwr mwk mlf men), (rf_RW ct 0 mw 958 f1_22)] ++ ws) ∧ va_S A s.heap H locs ∧ lv_has ls 5 [(0, .ref mo), (1, .int p1), (2, .int p2), (3, .int y_29), (4, .int y_30)] ∧ 0 ≤ y_30.toInt) ⟨_, ws_21, (0 : Int32), (0 : Int32), rfl, hT, hP, hD, hS, (lv_sub hl [2, 3, 4, 1, 0] rfl), (by decide)⟩ (fun μ H locs ls hI ih_43 => ?_)
        obtain ⟨ws, y_29, y_30, rfl, hT, hP, hD, hS, hl, hex_43⟩ := hI
        refine lv_iload hx hb dX11_start_43 (lv_at hl 4 rfl) ?_
        refine lv_aload_n hx hb dX11_start_45 rfl (lv_at hl 0 rfl) ?_
        refine va_get (v := .ref mw) (D := D) (ci := 11) (C := RX11) (T := TX11) (N := 19) hx hb hts in_X11 hown hK hP 0 rfl rfl 0 (by decide) (hts _ kl_RX11_9) (fun _ h9 => h9) rfl dX11_start_46 ?_
        refine lv_bipush (v := 9) hx hb dX11_start_49 (by decide) ?_
        refine va_iald hx hb hK hP 1 0 rfl rfl (cm_vin (by decide)) dX11_start_51 ?_
        refine cm_cst (y := (f1_22 9)) (by first | rfl | decide +kernel) ?_
        refine lv_icmp_ge (tgt := 79) hx hb dX11_start_52 (by decide) (fun hc_31 => ?_) (fun hc_31 => ?_)
        · refine lv_iload_n hx hb dX11_start_79 rfl (lv_at hl 3 rfl) ?_
          exact W.iret (v := y_29) hx hb hr (fun t ht hW => ⟨⟨y_29, (ws, th1_4, f1_22), rfl, ⟨hT, ⟨hD_26, hR_27⟩⟩, by rw [ht]; exact hP, by rw [hAe]; exact hD⟩, hS.F ht⟩) hS.2.2 dX11_start_80
        · refine lv_iload_n hx hb dX11_start_55 rfl (lv_at hl 3 rfl) ?_
          refine lv_aload_n hx hb dX11_start_56 rfl (lv_at hl 0 rfl) ?_
          refine lv_iload hx hb dX11_start_57 (lv_at hl 4 rfl) ?_
          refine lv_iconst (v := 1) hx hb dX11_start_59 (by decide) ?_
          refine ty_ki (wr := []) (wc := ([(rf_MO mo mw ma mf m0 m1 mu mv u0 u1 iz th1_4 mb mn mpt mbg mwr mwk mlf men), (rf_RW ct 0 mw 958 f1_22)] ++ ws)) (va_runV (As := [.int y_30, .int 1]) (rest := [.int y_29]) ⟨hx, hb, hml, hown, hts⟩ (m_X11_isIn l D ct S ws ph xx mo mw ma mf m0 m1 mu mv u0 u1 iz mb th1_4 mn mpt mbg mwr mwk mlf men f1_22 G (-1) y_30 (1 : Int32) _ hT h_mu h_mv h_u0 h_u1 hph hy1 hR_27 ⟨hex_43, by rw [← hR_27.2.1.2.2.2.2.1]; exact rf_ylt rfl hc_31⟩) (cm_V 2 hts kc_X11_isIn ki_RX11 kl_RX11_350 kv_X11_isIn kx_X11_isIn kd_X11_isIn ⟨Nat.le_of_ble_eq_true rfl, Nat.le_of_ble_eq_true rfl⟩) (ty_preE (wr := []) (wc := ([(rf_MO mo mw ma mf m0 m1 mu mv u0 u1 iz th1_4 mb mn mpt mbg mwr mwk mlf men), (rf_RW ct 0 mw 958 f1_22)] ++ ws)) (ci := 11) (q0 := 0) hP hK hD hS hA hX rfl rfl) rfl rfl hl.1 rfl (lv_room (Nat.le_of_ble_eq_true rfl)) dX11_start_60 ⟨Nat.le_of_ble_eq_true rfl, Nat.le_of_ble_eq_true rfl⟩) hP hD hS hA (fun r_32 u H locs hw_33 hP hD hS => ?_)
          obtain ⟨ws_34, rfl⟩ : ∃ z, z = u := ⟨_, rfl⟩
          obtain ⟨hT, hp_35⟩ := hw_33
          have hp_35 : ((r_32 = 0 ∧ ¬ rf_of f1_22 y_30 0 = (1 : Int32)) ∨ (r_32 = 1 ∧ rf_of f1_22 y_30 0 = (1 : Int32))) := hp_35
          have hP : va_P D vwCl ([(rf_MO mo mw ma mf m0 m1 mu mv u0 u1 iz th1_4 mb mn mpt mbg mwr mwk mlf men), (rf_RW ct 0 mw 958 f1_22)] ++ ws_34) H := hP
          have hD : va_D A ([(rf_MO mo mw ma mf m0 m1 mu mv u0 u1 iz th1_4 mb mn mpt mbg mwr mwk mlf men), (rf_RW ct 0 mw 958 f1_22)] ++ ws_34) := hD
          rcases hp_35 with ⟨rfl, hz_36⟩ | ⟨rfl, hz_37⟩
          · refine lv_if_eq (tgt := 70) hx hb dX11_start_63 (by decide) (fun _ => ?_) (fun hc => absurd (by decide) hc)
            refine lv_iconst (v := 0) hx hb dX11_start_70 (by decide) ?_
            refine lv_iadd hx hb dX11_start_71 ?_
            refine lv_topi (fun x_38 _ => ?_)
            refine lv_istore_n (lv' := [(3, .int x_38), (0, .ref mo), (1, .int p1), (2, .int p2), (4, .int y_30)]) hx hb dX11_start_72 rfl hl (by decide) rfl (fun ls hl => ?_)
            refine lv_iinc (v := (y_30 + Int32.ofInt 1)) (lv' := [(4, .int (y_30 + Int32.ofInt 1)), (3, .int x_38), (0, .ref mo), (1, .int p1), (2, .int p2)]) hx hb dX11_start_73 hl (k := 4) rfl rfl (by decide) rfl (fun ls hl => ?_)
            refine lv_goto (tgt := 43) hx hb dX11_start_76 (by decide) ?_
            exact ih_43 _ _ _ _ (ty_inc (cm_lt hc_31)) ⟨ws_34, x_38, (y_30 + Int32.ofInt 1), rfl, hT, hP, hD, hS, (lv_sub hl [2, 3, 4, 1, 0] rfl), (ty_nn hex_43 (cm_lt hc_31))⟩
          · refine lv_if_eq (tgt := 70) hx hb dX11_start_63 (by decide) (fun hc => absurd hc (by decide)) (fun _ => ?_)
            refine lv_iconst (v := 1) hx hb dX11_start_66 (by decide) ?_
            refine lv_goto (tgt := 71) hx hb dX11_start_67 (by decide) ?_
            refine lv_iadd hx hb dX11_start_71 ?_
            refine lv_topi (fun x_39 _ => ?_)
            refine lv_istore_n (lv' := [(3, .int x_39), (0, .ref mo), (1, .int p1), (2, .int p2), (4, .int y_30)]) hx hb dX11_start_72 rfl hl (by decide) rfl (fun ls hl => ?_)
            refine lv_iinc (v := (y_30 + Int32.ofInt 1)) (lv' := [(4, .int (y_30 + Int32.ofInt 1)), (3, .int x_39), (0, .ref mo), (1, .int p1), (2, .int p2)]) hx hb dX11_start_73 hl (k := 4) rfl rfl (by decide) rfl (fun ls hl => ?_)
            refine lv_goto (tgt := 43) hx hb dX11_start_76 (by decide) ?_
            exact ih_43 _ _ _ _ (ty_inc (cm_lt hc_31)) ⟨ws_34, x_39, (y_30 + Int32.ofInt 1), rfl, hT, hP, hD, hS, (lv_sub hl [2, 3, 4, 1, 0] rfl), (ty_nn hex_43 (cm_lt hc_31))⟩
    · refine lv_if_ne (tgt := 32) hx hb dX11_start_17 (by decide) (fun _ => ?_) (fun hc => absurd hc (by decide))
      refine lv_aload_n hx hb dX11_start_32 rfl (lv_at hl 0 rfl) ?_
      refine lv_iload_n hx hb dX11_start_33 rfl (lv_at hl 1 rfl) ?_
      refine lv_iload_n hx hb dX11_start_34 rfl (lv_at hl 2 rfl) ?_
      refine ty_kv (wr := []) (wc := ([(rf_MO mo mw ma mf m0 m1 mu mv u0 u1 iz th1_4 mb mn mpt mbg mwr mwk mlf men), (rf_RW ct 0 mw 958 f)] ++ ws_9)) (va_runV (As := [.int p1, .int p2]) (rest := []) ⟨hx, hb, hml, hown, hts⟩ (m_X11_startsOn l D ct S ws_9 ph xx mo mw ma mf m0 m1 mu mv u0 u1 iz mb th1_4 mn mpt mbg mwr mwk mlf men f G (-1) p1 p2 _ hT h_mu h_mv h_u0 h_u1 hph hy1 hy11 hR hz_6.1 (Or.inl rfl) hz_6.2) (cm_V 2 hts kc_X11_startsOn ki_RX11 kl_RX11_288 kv_X11_startsOn kx_X11_startsOn kd_X11_startsOn ⟨Nat.le_of_ble_eq_true rfl, Nat.le_of_ble_eq_true rfl⟩) (ty_preE (wr := []) (wc := ([(rf_MO mo mw ma mf m0 m1 mu mv u0 u1 iz th1_4 mb mn mpt mbg mwr mwk mlf men), (rf_RW ct 0 mw 958 f)] ++ ws_9)) (ci := 11) (q0 := 0) hP hK hD hS hA hX rfl rfl) rfl rfl hl.1 rfl (lv_room (Nat.le_of_ble_eq_true rfl)) dX11_start_35 ⟨Nat.le_of_ble_eq_true rfl, Nat.le_of_ble_eq_true rfl⟩) hP hD hS hA (fun u H locs hw_41 hP hD hS => ?_)
      obtain ⟨ws_42, f1_43⟩ := u
      obtain ⟨hT, hp_44⟩ := hw_41
      have hp_44 : rf_d (f 8) f f1_43 ∧ rf_R G (-1) f1_43 := hp_44
      obtain ⟨hd_45, hq_46⟩ := hp_44
      have hD_47 := rf_dt (rf_dr f) hd_45
      have hR_48 := hq_46
      have hP : va_P D vwCl ([(rf_MO mo mw ma mf m0 m1 mu mv u0 u1 iz th1_4 mb mn mpt mbg mwr mwk mlf men), (rf_RW ct 0 mw 958 f1_43)] ++ ws_42) H := hP
      have hD : va_D A ([(rf_MO mo mw ma mf m0 m1 mu mv u0 u1 iz th1_4 mb mn mpt mbg mwr mwk mlf men), (rf_RW ct 0 mw 958 f1_43)] ++ ws_42) := hD
      refine lv_iconst (v := 0) hx hb dX11_start_38 (by decide) ?_
      refine lv_istore_n (lv' := [(3, .int 0), (0, .ref mo), (1, .int p1), (2, .int p2)]) hx hb dX11_start_39 rfl hl (by decide) rfl (fun ls hl => ?_)
      refine lv_iconst (v := 0) hx hb dX11_start_40 (by decide) ?_
      refine lv_istore (lv' := [(4, .int 0), (3, .int 0), (0, .ref mo), (1, .int p1), (2, .int p2)]) hx hb dX11_start_41 hl (by decide) rfl (fun ls hl => ?_)
      refine ty_loop (I := fun μ H locs ls => ∃ (ws : va_W) (y_50 : Int32) (y_51 : Int32), μ = (2147483648 - y_51.toInt).toNat ∧ ty_V ct S ph ws ∧ va_P D vwCl ([(rf_MO mo mw ma mf m0 m1 mu mv u0 u1 iz th1_4 mb mn mpt mbg mwr mwk mlf men), (rf_RW ct 0 mw 958 f1_43)] ++ ws) H ∧ va_D A ([(rf_MO mo mw ma mf m0 m1 mu mv u0 u1 iz th1_4 mb mn mpt mbg mwr mwk mlf men), (rf_RW ct 0 mw 958 f1_43)] ++ ws) ∧ va_S A s.heap H locs ∧ lv_has ls 5 [(0, .ref mo), (1, .int p1), (2, .int p2), (3, .int y_50), (4, .int y_51)] ∧ 0 ≤ y_51.toInt) ⟨_, ws_42, (0 : Int32), (0 : Int32), rfl, hT, hP, hD, hS, (lv_sub hl [2, 3, 4, 1, 0] rfl), (by decide)⟩ (fun μ H locs ls hI ih_43 => ?_)
      obtain ⟨ws, y_50, y_51, rfl, hT, hP, hD, hS, hl, hex_43⟩ := hI
      refine lv_iload hx hb dX11_start_43 (lv_at hl 4 rfl) ?_
      refine lv_aload_n hx hb dX11_start_45 rfl (lv_at hl 0 rfl) ?_
      refine va_get (v := .ref mw) (D := D) (ci := 11) (C := RX11) (T := TX11) (N := 19) hx hb hts in_X11 hown hK hP 0 rfl rfl 0 (by decide) (hts _ kl_RX11_9) (fun _ h9 => h9) rfl dX11_start_46 ?_
      refine lv_bipush (v := 9) hx hb dX11_start_49 (by decide) ?_
      refine va_iald hx hb hK hP 1 0 rfl rfl (cm_vin (by decide)) dX11_start_51 ?_
      refine cm_cst (y := (f1_43 9)) (by first | rfl | decide +kernel) ?_
      refine lv_icmp_ge (tgt := 79) hx hb dX11_start_52 (by decide) (fun hc_52 => ?_) (fun hc_52 => ?_)
      · refine lv_iload_n hx hb dX11_start_79 rfl (lv_at hl 3 rfl) ?_
        exact W.iret (v := y_50) hx hb hr (fun t ht hW => ⟨⟨y_50, (ws, th1_4, f1_43), rfl, ⟨hT, ⟨hD_47, hR_48⟩⟩, by rw [ht]; exact hP, by rw [hAe]; exact hD⟩, hS.F ht⟩) hS.2.2 dX11_start_80
      · refine lv_iload_n hx hb dX11_start_55 rfl (lv_at hl 3 rfl) ?_
        refine lv_aload_n hx hb dX11_start_56 rfl (lv_at hl 0 rfl) ?_
        refine lv_iload hx hb dX11_start_57 (lv_at hl 4 rfl) ?_
        refine lv_iconst (v := 1) hx hb dX11_start_59 (by decide) ?_
        refine ty_ki (wr := []) (wc := ([(rf_MO mo mw ma mf m0 m1 mu mv u0 u1 iz th1_4 mb mn mpt mbg mwr mwk mlf men), (rf_RW ct 0 mw 958 f1_43)] ++ ws)) (va_runV (As := [.int y_51, .int 1]) (rest := [.int y_50]) ⟨hx, hb, hml, hown, hts⟩ (m_X11_isIn l D ct S ws ph xx mo mw ma mf m0 m1 mu mv u0 u1 iz mb th1_4 mn mpt mbg mwr mwk mlf men f1_43 G (-1) y_51 (1 : Int32) _ hT h_mu h_mv h_u0 h_u1 hph hy1 hR_48 ⟨hex_43, by rw [← hR_48.2.1.2.2.2.2.1]; exact rf_ylt rfl hc_52⟩) (cm_V 2 hts kc_X11_isIn ki_RX11 kl_RX11_350 kv_X11_isIn kx_X11_isIn kd_X11_isIn ⟨Nat.le_of_ble_eq_true rfl, Nat.le_of_ble_eq_true rfl⟩) (ty_preE (wr := []) (wc := ([(rf_MO mo mw ma mf m0 m1 mu mv u0 u1 iz th1_4 mb mn mpt mbg mwr mwk mlf men), (rf_RW ct 0 mw 958 f1_43)] ++ ws)) (ci := 11) (q0 := 0) hP hK hD hS hA hX rfl rfl) rfl rfl hl.1 rfl (lv_room (Nat.le_of_ble_eq_true rfl)) dX11_start_60 ⟨Nat.le_of_ble_eq_true rfl, Nat.le_of_ble_eq_true rfl⟩) hP hD hS hA (fun r_53 u H locs hw_54 hP hD hS => ?_)
        obtain ⟨ws_55, rfl⟩ : ∃ z, z = u := ⟨_, rfl⟩
        obtain ⟨hT, hp_56⟩ := hw_54
        have hp_56 : ((r_53 = 0 ∧ ¬ rf_of f1_43 y_51 0 = (1 : Int32)) ∨ (r_53 = 1 ∧ rf_of f1_43 y_51 0 = (1 : Int32))) := hp_56
        have hP : va_P D vwCl ([(rf_MO mo mw ma mf m0 m1 mu mv u0 u1 iz th1_4 mb mn mpt mbg mwr mwk mlf men), (rf_RW ct 0 mw 958 f1_43)] ++ ws_55) H := hP
        have hD : va_D A ([(rf_MO mo mw ma mf m0 m1 mu mv u0 u1 iz th1_4 mb mn mpt mbg mwr mwk mlf men), (rf_RW ct 0 mw 958 f1_43)] ++ ws_55) := hD
        rcases hp_56 with ⟨rfl, hz_57⟩ | ⟨rfl, hz_58⟩
        · refine lv_if_eq (tgt := 70) hx hb dX11_start_63 (by decide) (fun _ => ?_) (fun hc => absurd (by decide) hc)
          refine lv_iconst (v := 0) hx hb dX11_start_70 (by decide) ?_
          refine lv_iadd hx hb dX11_start_71 ?_
          refine lv_topi (fun x_59 _ => ?_)
          refine lv_istore_n (lv' := [(3, .int x_59), (0, .ref mo), (1, .int p1), (2, .int p2), (4, .int y_51)]) hx hb dX11_start_72 rfl hl (by decide) rfl (fun ls hl => ?_)
          refine lv_iinc (v := (y_51 + Int32.ofInt 1)) (lv' := [(4, .int (y_51 + Int32.ofInt 1)), (3, .int x_59), (0, .ref mo), (1, .int p1), (2, .int p2)]) hx hb dX11_start_73 hl (k := 4) rfl rfl (by decide) rfl (fun ls hl => ?_)
          refine lv_goto (tgt := 43) hx hb dX11_start_76 (by decide) ?_
          exact ih_43 _ _ _ _ (ty_inc (cm_lt hc_52)) ⟨ws_55, x_59, (y_51 + Int32.ofInt 1), rfl, hT, hP, hD, hS, (lv_sub hl [2, 3, 4, 1, 0] rfl), (ty_nn hex_43 (cm_lt hc_52))⟩
        · refine lv_if_eq (tgt := 70) hx hb dX11_start_63 (by decide) (fun hc => absurd hc (by decide)) (fun _ => ?_)
          refine lv_iconst (v := 1) hx hb dX11_start_66 (by decide) ?_
          refine lv_goto (tgt := 71) hx hb dX11_start_67 (by decide) ?_
          refine lv_iadd hx hb dX11_start_71 ?_
          refine lv_topi (fun x_60 _ => ?_)
          refine lv_istore_n (lv' := [(3, .int x_60), (0, .ref mo), (1, .int p1), (2, .int p2), (4, .int y_51)]) hx hb dX11_start_72 rfl hl (by decide) rfl (fun ls hl => ?_)
          refine lv_iinc (v := (y_51 + Int32.ofInt 1)) (lv' := [(4, .int (y_51 + Int32.ofInt 1)), (3, .int x_60), (0, .ref mo), (1, .int p1), (2, .int p2)]) hx hb dX11_start_73 hl (k := 4) rfl rfl (by decide) rfl (fun ls hl => ?_)
          refine lv_goto (tgt := 43) hx hb dX11_start_76 (by decide) ?_
          exact ih_43 _ _ _ _ (ty_inc (cm_lt hc_52)) ⟨ws_55, x_60, (y_51 + Int32.ofInt 1), rfl, hT, hP, hD, hS, (lv_sub hl [2, 3, 4, 1, 0] rfl), (ty_nn hex_43 (cm_lt hc_52))⟩
  · refine lv_if_eq (tgt := 11) hx hb dX11_start_6 (by decide) (fun hc => absurd hc (by decide)) (fun _ => ?_)
    refine lv_iconst (v := 0) hx hb dX11_start_9 (by decide) ?_
    exact W.iret (v := 0) hx hb hr (fun t ht hW => ⟨⟨0, (ws_3, th1_4, f), rfl, ⟨hT, ⟨(rf_dr f), hR⟩⟩, by rw [ht]; exact hP, by rw [hAe]; exact hD⟩, hS.F ht⟩) hS.2.2 dX11_start_10
