theorem dX11_chargeFor_0 : decode cX11_chargeFor 0 = .ok (.aload_n 0, 1) := by decide +kernel
theorem dX11_chargeFor_1 : decode cX11_chargeFor 1 = .ok (.iload_n 1, 1) := by decide +kernel
theorem dX11_chargeFor_2 : decode cX11_chargeFor 2 = .ok (.invokevirtual 344, 3) := by decide +kernel
theorem dX11_chargeFor_5 : decode cX11_chargeFor 5 = .ok (.ifCond .ne 28, 3) := by decide +kernel
theorem dX11_chargeFor_8 : decode cX11_chargeFor 8 = .ok (.aload_n 0, 1) := by decide +kernel
theorem dX11_chargeFor_9 : decode cX11_chargeFor 9 = .ok (.iload_n 2, 1) := by decide +kernel
theorem dX11_chargeFor_10 : decode cX11_chargeFor 10 = .ok (.i2l, 1) := by decide +kernel
theorem dX11_chargeFor_11 : decode cX11_chargeFor 11 = .ok (.lconst 0, 1) := by decide +kernel
theorem dX11_chargeFor_12 : decode cX11_chargeFor 12 = .ok (.ldc2_w 338, 3) := by decide +kernel
theorem dX11_chargeFor_15 : decode cX11_chargeFor 15 = .ok (.invokestatic 70, 3) := by decide +kernel
theorem dX11_chargeFor_18 : decode cX11_chargeFor 18 = .ok (.ifCond .ne 7, 3) := by decide +kernel
theorem dX11_chargeFor_21 : decode cX11_chargeFor 21 = .ok (.iconst 1, 1) := by decide +kernel
theorem dX11_chargeFor_22 : decode cX11_chargeFor 22 = .ok (.goto 4, 3) := by decide +kernel
theorem dX11_chargeFor_25 : decode cX11_chargeFor 25 = .ok (.iconst 0, 1) := by decide +kernel
theorem dX11_chargeFor_26 : decode cX11_chargeFor 26 = .ok (.iconst 2, 1) := by decide +kernel
theorem dX11_chargeFor_27 : decode cX11_chargeFor 27 = .ok (.invokevirtual 328, 3) := by decide +kernel
theorem dX11_chargeFor_30 : decode cX11_chargeFor 30 = .ok (.ifCond .eq 5, 3) := by decide +kernel
theorem dX11_chargeFor_33 : decode cX11_chargeFor 33 = .ok (.iconst 0, 1) := by decide +kernel
theorem dX11_chargeFor_34 : decode cX11_chargeFor 34 = .ok (.ireturn, 1) := by decide +kernel
theorem dX11_chargeFor_35 : decode cX11_chargeFor 35 = .ok (.iconst 0, 1) := by decide +kernel
theorem dX11_chargeFor_36 : decode cX11_chargeFor 36 = .ok (.istore_n 3, 1) := by decide +kernel
theorem dX11_chargeFor_37 : decode cX11_chargeFor 37 = .ok (.aload_n 0, 1) := by decide +kernel
theorem dX11_chargeFor_38 : decode cX11_chargeFor 38 = .ok (.iload_n 1, 1) := by decide +kernel
theorem dX11_chargeFor_39 : decode cX11_chargeFor 39 = .ok (.bipush 7, 2) := by decide +kernel
theorem dX11_chargeFor_41 : decode cX11_chargeFor 41 = .ok (.invokevirtual 209, 3) := by decide +kernel
theorem dX11_chargeFor_44 : decode cX11_chargeFor 44 = .ok (.iconst 1, 1) := by decide +kernel
theorem dX11_chargeFor_45 : decode cX11_chargeFor 45 = .ok (.iadd, 1) := by decide +kernel
theorem dX11_chargeFor_46 : decode cX11_chargeFor 46 = .ok (.istore 4, 2) := by decide +kernel
theorem dX11_chargeFor_48 : decode cX11_chargeFor 48 = .ok (.iload_n 3, 1) := by decide +kernel
theorem dX11_chargeFor_49 : decode cX11_chargeFor 49 = .ok (.iload 4, 2) := by decide +kernel
theorem dX11_chargeFor_51 : decode cX11_chargeFor 51 = .ok (.if_icmp .ge 37, 3) := by decide +kernel
theorem dX11_chargeFor_54 : decode cX11_chargeFor 54 = .ok (.iload_n 3, 1) := by decide +kernel
theorem dX11_chargeFor_55 : decode cX11_chargeFor 55 = .ok (.iload 4, 2) := by decide +kernel
theorem dX11_chargeFor_57 : decode cX11_chargeFor 57 = .ok (.iadd, 1) := by decide +kernel
theorem dX11_chargeFor_58 : decode cX11_chargeFor 58 = .ok (.iconst 2, 1) := by decide +kernel
theorem dX11_chargeFor_59 : decode cX11_chargeFor 59 = .ok (.idiv, 1) := by decide +kernel
theorem dX11_chargeFor_60 : decode cX11_chargeFor 60 = .ok (.istore 5, 2) := by decide +kernel
theorem dX11_chargeFor_62 : decode cX11_chargeFor 62 = .ok (.aload_n 0, 1) := by decide +kernel
theorem dX11_chargeFor_63 : decode cX11_chargeFor 63 = .ok (.iload_n 1, 1) := by decide +kernel
theorem dX11_chargeFor_64 : decode cX11_chargeFor 64 = .ok (.iload 5, 2) := by decide +kernel
theorem dX11_chargeFor_66 : decode cX11_chargeFor 66 = .ok (.invokevirtual 231, 3) := by decide +kernel
theorem dX11_chargeFor_69 : decode cX11_chargeFor 69 = .ok (.iload_n 2, 1) := by decide +kernel
theorem dX11_chargeFor_70 : decode cX11_chargeFor 70 = .ok (.if_icmp .lt 10, 3) := by decide +kernel
theorem dX11_chargeFor_73 : decode cX11_chargeFor 73 = .ok (.iload 5, 2) := by decide +kernel
theorem dX11_chargeFor_75 : decode cX11_chargeFor 75 = .ok (.istore 4, 2) := by decide +kernel
theorem dX11_chargeFor_77 : decode cX11_chargeFor 77 = .ok (.goto 8, 3) := by decide +kernel
theorem dX11_chargeFor_80 : decode cX11_chargeFor 80 = .ok (.iload 5, 2) := by decide +kernel
theorem dX11_chargeFor_82 : decode cX11_chargeFor 82 = .ok (.iconst 1, 1) := by decide +kernel
theorem dX11_chargeFor_83 : decode cX11_chargeFor 83 = .ok (.iadd, 1) := by decide +kernel
theorem dX11_chargeFor_84 : decode cX11_chargeFor 84 = .ok (.istore_n 3, 1) := by decide +kernel
theorem dX11_chargeFor_85 : decode cX11_chargeFor 85 = .ok (.goto (-37), 3) := by decide +kernel
theorem dX11_chargeFor_88 : decode cX11_chargeFor 88 = .ok (.iload_n 3, 1) := by decide +kernel
theorem dX11_chargeFor_89 : decode cX11_chargeFor 89 = .ok (.aload_n 0, 1) := by decide +kernel
theorem dX11_chargeFor_90 : decode cX11_chargeFor 90 = .ok (.iload_n 1, 1) := by decide +kernel
theorem dX11_chargeFor_91 : decode cX11_chargeFor 91 = .ok (.bipush 7, 2) := by decide +kernel
theorem dX11_chargeFor_93 : decode cX11_chargeFor 93 = .ok (.invokevirtual 209, 3) := by decide +kernel
theorem dX11_chargeFor_96 : decode cX11_chargeFor 96 = .ok (.if_icmp .le 7, 3) := by decide +kernel
theorem dX11_chargeFor_99 : decode cX11_chargeFor 99 = .ok (.iconst (-1), 1) := by decide +kernel
theorem dX11_chargeFor_100 : decode cX11_chargeFor 100 = .ok (.goto 4, 3) := by decide +kernel
theorem dX11_chargeFor_103 : decode cX11_chargeFor 103 = .ok (.iload_n 3, 1) := by decide +kernel
theorem dX11_chargeFor_104 : decode cX11_chargeFor 104 = .ok (.ireturn, 1) := by decide +kernel
set_option maxRecDepth 100000 in
set_option maxHeartbeats 4000000 in
theorem m_X11_chargeFor (l : Launch) (D : va_G) (ct : Nat → ClassId) (S : ty_S) (ws : va_W) (ph : va_W → Prop) (xx : Nat → Nat → Nat → Prop) (mo : Nat) (mw : Nat) (ma : Nat) (mf : Nat) (m0 : Nat) (m1 : Nat) (mu : Nat) (mv : Nat) (u0 : Nat) (u1 : Nat) (iz : Nat) (mb : Nat) (th : Int32) (mn : Int32) (mpt : Int32) (mbg : Int32) (mwr : Int32) (mwk : Int32) (mlf : Int32) (men : Int32) (f : Nat → Int32) (G : Nat → Int32) (cx : Int) (p1 : Int32) (p2 : Int32) (sz : Nat) (hT : ty_V ct S ph ws) (h_mu : S mu = some (.inr (1, 42))) (h_mv : S mv = some (.inr (1, 42))) (h_u0 : S u0 = some (.inr (1, 42))) (h_u1 : S u1 = some (.inr (1, 42))) (hph : ty_C ph xx) (hy1 : ty_y1 xx) (hR : rf_R G cx f) : Met l yX11_chargeFor (ws_ yX11_chargeFor cX11_chargeFor 6 (some .int)) ({ frames := 2, cells := 0, slots := 0, locals := 53 } : Room) (va_Pc [.ref mo, .int p1, .int p2] (cmP D ct sz ([(rf_MO mo mw ma mf m0 m1 mu mv u0 u1 iz th mb mn mpt mbg mwr mwk mlf men), (rf_RW ct 0 mw 958 f)] ++ ws))) (va_Qi (fun (r : Int32) (u : va_W × Int32) => match u with | (u9, th1) => ty_V ct S ph u9) (cmB D ([(rf_MO mo mw ma mf m0 m1 mu mv u0 u1 iz th mb mn mpt mbg mwr mwk mlf men), (rf_RW ct 0 mw 958 f)] ++ ws) sz (fun (u : va_W × Int32) => match u with | (u9, th1) => ([(rf_MO mo mw ma mf m0 m1 mu mv u0 u1 iz th1 mb mn mpt mbg mwr mwk mlf men), (rf_RW ct 0 mw 958 f)] ++ u9))) (va_A ([(rf_MO mo mw ma mf m0 m1 mu mv u0 u1 iz th mb mn mpt mbg mwr mwk mlf men), (rf_RW ct 0 mw 958 f)] ++ ws) sz)) 0 0 (va_A ([(rf_MO mo mw ma mf m0 m1 mu mv u0 u1 iz th mb mn mpt mbg mwr mwk mlf men), (rf_RW ct 0 mw 958 f)] ++ ws) sz) := by
  refine Met.ofW (cc := cX11_chargeFor) (maxL := 6) (ret := (some .int)) (by decide) rfl ?_
  intro p e s m args below meth c s₁ B hml hv
  obtain ⟨rfl, hsz, hP, hK, hD0, hX⟩ := hv
  have hx := B.exec
  have hb := B.bytes
  have hr := B.returns
  have hts := ws_all (atoms_spec (ws := ws_ yX11_chargeFor cX11_chargeFor 6 (some .int)) B.pre)
  have hown : s.vm.findClass RX11 = some m.cls := findClass_of_methodNamed B.named
  have hlocks := B.notSynchronized
  subst hsz
  have hD := hD0.self (sz := s.heap.size)
  generalize hAe : va_A ([(rf_MO mo mw ma mf m0 m1 mu mv u0 u1 iz th mb mn mpt mbg mwr mwk mlf men), (rf_RW ct 0 mw 958 f)] ++ ws) s.heap.size = A at hD hX ⊢
  have hA : ∀ q : Nat, s.heap.size ≤ q → A q := fun q h => by rw [← hAe]; exact Or.inr h
  have hS : va_S A s.heap s.heap [] := va_S.rf
  have hl := lv_entry ([.ref mo, .int p1, .int p2]) (n := 6) (Nat.le_of_ble_eq_true rfl)
  rw [lg_entry_eq]
  generalize (lg_sl ([.ref mo, .int p1, .int p2]) ++ List.replicate (6 - (lg_sl ([.ref mo, .int p1, .int p2])).length) Slot.unset).toArray = ls at hl ⊢
  have hl : lv_has ls 6 [(0, .ref mo), (1, .int p1), (2, .int p2)] := hl
  refine lv_aload_n hx hb dX11_chargeFor_0 rfl (lv_at hl 0 rfl) ?_
  refine lv_iload_n hx hb dX11_chargeFor_1 rfl (lv_at hl 1 rfl) ?_
  refine ty_ki (wr := []) (wc := ([(rf_MO mo mw ma mf m0 m1 mu mv u0 u1 iz th mb mn mpt mbg mwr mwk mlf men), (rf_RW ct 0 mw 958 f)] ++ ws)) (va_runV (As := [.int p1]) (rest := []) ⟨hx, hb, hml, hown, hts⟩ (m_X11_noChannel l D ct S ws ph xx mo mw ma mf m0 m1 mu mv u0 u1 iz mb th mn mpt mbg mwr mwk mlf men f G cx p1 _ hT h_mu h_mv h_u0 h_u1 hph hy1 hR) (cm_V 1 hts kc_X11_noChannel ki_RX11 kl_RX11_344 kv_X11_noChannel kx_X11_noChannel kd_X11_noChannel ⟨Nat.le_of_ble_eq_true rfl, Nat.le_of_ble_eq_true rfl⟩) (ty_preE (wr := []) (wc := ([(rf_MO mo mw ma mf m0 m1 mu mv u0 u1 iz th mb mn mpt mbg mwr mwk mlf men), (rf_RW ct 0 mw 958 f)] ++ ws)) (ci := 11) (q0 := 0) hP hK hD hS hA hX rfl rfl) rfl rfl hl.1 rfl (lv_room (Nat.le_of_ble_eq_true rfl)) dX11_chargeFor_2 ⟨Nat.le_of_ble_eq_true rfl, Nat.le_of_ble_eq_true rfl⟩) hP hD hS hA (fun r_1 u H locs hw_2 hP hD hS => ?_)
  obtain ⟨ws_3, th1_4⟩ := u
  obtain ⟨hT, hp_5⟩ := hw_2
  have hp_5 : ((r_1 = 0 ∧ 0 ≤ p1.toInt ∧ p1.toInt < (G 9).toInt) ∨ r_1 = 1) := hp_5
  have hP : va_P D vwCl ([(rf_MO mo mw ma mf m0 m1 mu mv u0 u1 iz th1_4 mb mn mpt mbg mwr mwk mlf men), (rf_RW ct 0 mw 958 f)] ++ ws_3) H := hP
  have hD : va_D A ([(rf_MO mo mw ma mf m0 m1 mu mv u0 u1 iz th1_4 mb mn mpt mbg mwr mwk mlf men), (rf_RW ct 0 mw 958 f)] ++ ws_3) := hD
  rcases hp_5 with ⟨rfl, hz_6⟩ | rfl
  · refine lv_if_ne (tgt := 33) hx hb dX11_chargeFor_5 (by decide) (fun hc => absurd (by decide) hc) (fun _ => ?_)
    refine lv_aload_n hx hb dX11_chargeFor_8 rfl (lv_at hl 0 rfl) ?_
    refine lv_iload_n hx hb dX11_chargeFor_9 rfl (lv_at hl 2 rfl) ?_
    refine lv_i2l hx hb dX11_chargeFor_10 rfl ?_
    refine lv_lconst (v := 0) hx hb dX11_chargeFor_11 (by decide) ?_
    refine lv_ldc2 hx hb hown (hts _ kl_RX11_338) dX11_chargeFor_12 ?_
    refine ty_ki (wr := [(rf_MO mo mw ma mf m0 m1 mu mv u0 u1 iz th1_4 mb mn mpt mbg mwr mwk mlf men), (rf_RW ct 0 mw 958 f)]) (wc := ([] ++ ws_3)) (va_runS (As := [.long p2.toInt64, .long 0, .long 5000]) (rest := [.ref mo]) ⟨hx, hb, hml, hown, hts⟩ (m_X11_in l D ct S ws_3 ph xx p2.toInt64 (0 : Int64) (5000 : Int64) _ hT hph hy1) (cm_S 3 hts kc_X11_in ki_RX11 kl_RX11_70 ks_X11_in kd_X11_in ⟨Nat.le_of_ble_eq_true rfl, Nat.le_of_ble_eq_true rfl⟩) (ty_preS (wr := [(rf_MO mo mw ma mf m0 m1 mu mv u0 u1 iz th1_4 mb mn mpt mbg mwr mwk mlf men), (rf_RW ct 0 mw 958 f)]) (wc := ([] ++ ws_3)) hP hK hD hS hA hX) rfl rfl hl.1 rfl (lv_room (Nat.le_of_ble_eq_true rfl)) dX11_chargeFor_15 ⟨Nat.le_of_ble_eq_true rfl, Nat.le_of_ble_eq_true rfl⟩) hP hD hS hA (fun r_7 u H locs hw_8 hP hD hS => ?_)
    obtain ⟨ws_9, rfl⟩ : ∃ z, z = u := ⟨_, rfl⟩
    obtain ⟨hT, rfl⟩ := hw_8
    have hP : va_P D vwCl ([(rf_MO mo mw ma mf m0 m1 mu mv u0 u1 iz th1_4 mb mn mpt mbg mwr mwk mlf men), (rf_RW ct 0 mw 958 f)] ++ ws_9) H := hP
    have hD : va_D A ([(rf_MO mo mw ma mf m0 m1 mu mv u0 u1 iz th1_4 mb mn mpt mbg mwr mwk mlf men), (rf_RW ct 0 mw 958 f)] ++ ws_9) := hD
    refine lv_if_ne (tgt := 25) hx hb dX11_chargeFor_18 (by decide) (fun hc_10 => ?_) (fun hc_10 => ?_)
    · refine lv_iconst (v := 0) hx hb dX11_chargeFor_25 (by decide) ?_
      refine lv_iconst (v := 2) hx hb dX11_chargeFor_26 (by decide) ?_
      have hP : va_P D vwCl ([(rf_RW ct 0 mw 958 f), (rf_MO mo mw ma mf m0 m1 mu mv u0 u1 iz th1_4 mb mn mpt mbg mwr mwk mlf men)] ++ ws_9) H := ty_permP hP (ty_ordp (E := [(rf_MO mo mw ma mf m0 m1 mu mv u0 u1 iz th1_4 mb mn mpt mbg mwr mwk mlf men), (rf_RW ct 0 mw 958 f)]) (E2 := [(rf_RW ct 0 mw 958 f), (rf_MO mo mw ma mf m0 m1 mu mv u0 u1 iz th1_4 mb mn mpt mbg mwr mwk mlf men)]) (n := 2) [1, 0] rfl rfl (by decide))
      have hD : va_D A ([(rf_RW ct 0 mw 958 f), (rf_MO mo mw ma mf m0 m1 mu mv u0 u1 iz th1_4 mb mn mpt mbg mwr mwk mlf men)] ++ ws_9) := ty_permD hD (ty_ordp (E := [(rf_MO mo mw ma mf m0 m1 mu mv u0 u1 iz th1_4 mb mn mpt mbg mwr mwk mlf men), (rf_RW ct 0 mw 958 f)]) (E2 := [(rf_RW ct 0 mw 958 f), (rf_MO mo mw ma mf m0 m1 mu mv u0 u1 iz th1_4 mb mn mpt mbg mwr mwk mlf men)]) (n := 2) [1, 0] rfl rfl (by decide))
      refine ty_ki (wr := [(rf_RW ct 0 mw 958 f)]) (wc := ([(rf_MO mo mw ma mf m0 m1 mu mv u0 u1 iz th1_4 mb mn mpt mbg mwr mwk mlf men)] ++ ws_9)) (va_runV (As := [.int 0, .int 2]) (rest := []) ⟨hx, hb, hml, hown, hts⟩ (m_X11_throwsIf l D ct S ws_9 ph xx mo mw ma mf m0 m1 mu mv u0 u1 iz mb th1_4 mn mpt mbg mwr mwk mlf men (0 : Int32) (2 : Int32) _ hT h_mu h_mv h_u0 h_u1 hph hy1 (by decide)) (cm_V 2 hts kc_X11_throwsIf ki_RX11 kl_RX11_328 kv_X11_throwsIf kx_X11_throwsIf kd_X11_throwsIf ⟨Nat.le_of_ble_eq_true rfl, Nat.le_of_ble_eq_true rfl⟩) (ty_preE (wr := [(rf_RW ct 0 mw 958 f)]) (wc := ([(rf_MO mo mw ma mf m0 m1 mu mv u0 u1 iz th1_4 mb mn mpt mbg mwr mwk mlf men)] ++ ws_9)) (ci := 11) (q0 := 1) hP hK hD hS hA hX rfl rfl) rfl rfl hl.1 rfl (lv_room (Nat.le_of_ble_eq_true rfl)) dX11_chargeFor_27 ⟨Nat.le_of_ble_eq_true rfl, Nat.le_of_ble_eq_true rfl⟩) hP hD hS hA (fun r_11 u H locs hw_12 hP hD hS => ?_)
      obtain ⟨ws_13, th1_14⟩ := u
      obtain ⟨hT, hp_15⟩ := hw_12
      have hp_15 : ((r_11 = 0 ∧ (0 : Int32) = 0) ∨ r_11 = 1) := hp_15
      have hP : va_P D vwCl ([(rf_RW ct 0 mw 958 f), (rf_MO mo mw ma mf m0 m1 mu mv u0 u1 iz th1_14 mb mn mpt mbg mwr mwk mlf men)] ++ ws_13) H := hP
      have hD : va_D A ([(rf_RW ct 0 mw 958 f), (rf_MO mo mw ma mf m0 m1 mu mv u0 u1 iz th1_14 mb mn mpt mbg mwr mwk mlf men)] ++ ws_13) := hD
      rcases hp_15 with ⟨rfl, hz_16⟩ | rfl
      · refine lv_if_eq (tgt := 35) hx hb dX11_chargeFor_30 (by decide) (fun _ => ?_) (fun hc => absurd (by decide) hc)
        refine lv_iconst (v := 0) hx hb dX11_chargeFor_35 (by decide) ?_
        refine lv_istore_n (lv' := [(3, .int 0), (0, .ref mo), (1, .int p1), (2, .int p2)]) hx hb dX11_chargeFor_36 rfl hl (by decide) rfl (fun ls hl => ?_)
        refine lv_aload_n hx hb dX11_chargeFor_37 rfl (lv_at hl 1 rfl) ?_
        refine lv_iload_n hx hb dX11_chargeFor_38 rfl (lv_at hl 2 rfl) ?_
        refine lv_bipush (v := 7) hx hb dX11_chargeFor_39 (by decide) ?_
        have hP : va_P D vwCl ([(rf_MO mo mw ma mf m0 m1 mu mv u0 u1 iz th1_14 mb mn mpt mbg mwr mwk mlf men), (rf_RW ct 0 mw 958 f)] ++ ws_13) H := ty_permP hP (ty_ordp (E := [(rf_RW ct 0 mw 958 f), (rf_MO mo mw ma mf m0 m1 mu mv u0 u1 iz th1_14 mb mn mpt mbg mwr mwk mlf men)]) (E2 := [(rf_MO mo mw ma mf m0 m1 mu mv u0 u1 iz th1_14 mb mn mpt mbg mwr mwk mlf men), (rf_RW ct 0 mw 958 f)]) (n := 2) [1, 0] rfl rfl (by decide))
        have hD : va_D A ([(rf_MO mo mw ma mf m0 m1 mu mv u0 u1 iz th1_14 mb mn mpt mbg mwr mwk mlf men), (rf_RW ct 0 mw 958 f)] ++ ws_13) := ty_permD hD (ty_ordp (E := [(rf_RW ct 0 mw 958 f), (rf_MO mo mw ma mf m0 m1 mu mv u0 u1 iz th1_14 mb mn mpt mbg mwr mwk mlf men)]) (E2 := [(rf_MO mo mw ma mf m0 m1 mu mv u0 u1 iz th1_14 mb mn mpt mbg mwr mwk mlf men), (rf_RW ct 0 mw 958 f)]) (n := 2) [1, 0] rfl rfl (by decide))
        refine ty_ki (wr := []) (wc := ([(rf_MO mo mw ma mf m0 m1 mu mv u0 u1 iz th1_14 mb mn mpt mbg mwr mwk mlf men), (rf_RW ct 0 mw 958 f)] ++ ws_13)) (va_runV (As := [.int p1, .int 7]) (rest := []) ⟨hx, hb, hml, hown, hts⟩ (m_of_7 l D ct S ws_13 ph xx mo mw ma mf m0 m1 mu mv u0 u1 iz mb th1_14 mn mpt mbg mwr mwk mlf men f G cx p1 _ hT h_mu h_mv h_u0 h_u1 hph hy1 hR hz_6) (cm_V 2 hts kc_X11_of ki_RX11 kl_RX11_209 kv_X11_of kx_X11_of kd_X11_of ⟨Nat.le_of_ble_eq_true rfl, Nat.le_of_ble_eq_true rfl⟩) (ty_preE (wr := []) (wc := ([(rf_MO mo mw ma mf m0 m1 mu mv u0 u1 iz th1_14 mb mn mpt mbg mwr mwk mlf men), (rf_RW ct 0 mw 958 f)] ++ ws_13)) (ci := 11) (q0 := 0) hP hK hD hS hA hX rfl rfl) rfl rfl hl.1 rfl (lv_room (Nat.le_of_ble_eq_true rfl)) dX11_chargeFor_41 ⟨Nat.le_of_ble_eq_true rfl, Nat.le_of_ble_eq_true rfl⟩) hP hD hS hA (fun r_17 u H locs hw_18 hP hD hS => ?_)
        obtain ⟨ws_19, rfl⟩ : ∃ z, z = u := ⟨_, rfl⟩
        obtain ⟨hT, rfl⟩ := hw_18
        have hP : va_P D vwCl ([(rf_MO mo mw ma mf m0 m1 mu mv u0 u1 iz th1_14 mb mn mpt mbg mwr mwk mlf men), (rf_RW ct 0 mw 958 f)] ++ ws_19) H := hP
        have hD : va_D A ([(rf_MO mo mw ma mf m0 m1 mu mv u0 u1 iz th1_14 mb mn mpt mbg mwr mwk mlf men), (rf_RW ct 0 mw 958 f)] ++ ws_19) := hD
        refine lv_iconst (v := 1) hx hb dX11_chargeFor_44 (by decide) ?_
        refine lv_iadd hx hb dX11_chargeFor_45 ?_
        refine lv_istore (lv' := [(4, .int ((rf_of f p1 7) + 1)), (3, .int 0), (0, .ref mo), (1, .int p1), (2, .int p2)]) hx hb dX11_chargeFor_46 hl (by decide) rfl (fun ls hl => ?_)
        refine ty_loop (I := fun μ H locs ls => ∃ (ws : va_W) (y_20 : Int32) (y_21 : Int32), μ = (y_21.toInt - y_20.toInt).toNat ∧ ty_V ct S ph ws ∧ va_P D vwCl ([(rf_MO mo mw ma mf m0 m1 mu mv u0 u1 iz th1_14 mb mn mpt mbg mwr mwk mlf men), (rf_RW ct 0 mw 958 f)] ++ ws) H ∧ va_D A ([(rf_MO mo mw ma mf m0 m1 mu mv u0 u1 iz th1_14 mb mn mpt mbg mwr mwk mlf men), (rf_RW ct 0 mw 958 f)] ++ ws) ∧ va_S A s.heap H locs ∧ lv_has ls 6 [(0, .ref mo), (1, .int p1), (2, .int p2), (3, .int y_20), (4, .int y_21)] ∧ 0 ≤ y_20.toInt ∧ y_21.toInt ≤ 100001) ⟨_, ws_19, (0 : Int32), ((rf_of f p1 7) + 1), rfl, hT, hP, hD, hS, (lv_sub hl [2, 3, 4, 1, 0] rfl), (by have := rf_qp hR hz_6; have o : (1 : Int32).toInt = 1 := (by decide); have e : (rf_of f p1 7 + 1).toInt = (rf_of f p1 7).toInt + 1 := rf_p1 (by omega); have z : (0 : Int32).toInt = 0 := (by decide); omega)⟩ (fun μ H locs ls hI ih_48 => ?_)
        obtain ⟨ws, y_20, y_21, rfl, hT, hP, hD, hS, hl, hex_48⟩ := hI
        refine lv_iload_n hx hb dX11_chargeFor_48 rfl (lv_at hl 3 rfl) ?_
        refine lv_iload hx hb dX11_chargeFor_49 (lv_at hl 4 rfl) ?_
        refine lv_icmp_ge (tgt := 88) hx hb dX11_chargeFor_51 (by decide) (fun hc_22 => ?_) (fun hc_22 => ?_)
        · refine lv_iload_n hx hb dX11_chargeFor_88 rfl (lv_at hl 3 rfl) ?_
          refine lv_aload_n hx hb dX11_chargeFor_89 rfl (lv_at hl 0 rfl) ?_
          refine lv_iload_n hx hb dX11_chargeFor_90 rfl (lv_at hl 1 rfl) ?_
          refine lv_bipush (v := 7) hx hb dX11_chargeFor_91 (by decide) ?_
          refine ty_ki (wr := []) (wc := ([(rf_MO mo mw ma mf m0 m1 mu mv u0 u1 iz th1_14 mb mn mpt mbg mwr mwk mlf men), (rf_RW ct 0 mw 958 f)] ++ ws)) (va_runV (As := [.int p1, .int 7]) (rest := [.int y_20]) ⟨hx, hb, hml, hown, hts⟩ (m_of_7 l D ct S ws ph xx mo mw ma mf m0 m1 mu mv u0 u1 iz mb th1_14 mn mpt mbg mwr mwk mlf men f G cx p1 _ hT h_mu h_mv h_u0 h_u1 hph hy1 hR hz_6) (cm_V 2 hts kc_X11_of ki_RX11 kl_RX11_209 kv_X11_of kx_X11_of kd_X11_of ⟨Nat.le_of_ble_eq_true rfl, Nat.le_of_ble_eq_true rfl⟩) (ty_preE (wr := []) (wc := ([(rf_MO mo mw ma mf m0 m1 mu mv u0 u1 iz th1_14 mb mn mpt mbg mwr mwk mlf men), (rf_RW ct 0 mw 958 f)] ++ ws)) (ci := 11) (q0 := 0) hP hK hD hS hA hX rfl rfl) rfl rfl hl.1 rfl (lv_room (Nat.le_of_ble_eq_true rfl)) dX11_chargeFor_93 ⟨Nat.le_of_ble_eq_true rfl, Nat.le_of_ble_eq_true rfl⟩) hP hD hS hA (fun r_23 u H locs hw_24 hP hD hS => ?_)
          obtain ⟨ws_25, rfl⟩ : ∃ z, z = u := ⟨_, rfl⟩
          obtain ⟨hT, rfl⟩ := hw_24
          have hP : va_P D vwCl ([(rf_MO mo mw ma mf m0 m1 mu mv u0 u1 iz th1_14 mb mn mpt mbg mwr mwk mlf men), (rf_RW ct 0 mw 958 f)] ++ ws_25) H := hP
          have hD : va_D A ([(rf_MO mo mw ma mf m0 m1 mu mv u0 u1 iz th1_14 mb mn mpt mbg mwr mwk mlf men), (rf_RW ct 0 mw 958 f)] ++ ws_25) := hD
          refine lv_icmp_le (tgt := 103) hx hb dX11_chargeFor_96 (by decide) (fun hc_26 => ?_) (fun hc_26 => ?_)
          · refine lv_iload_n hx hb dX11_chargeFor_103 rfl (lv_at hl 3 rfl) ?_
            exact W.iret (v := y_20) hx hb hr (fun t ht hW => ⟨⟨y_20, (ws_25, th1_14), rfl, hT, by rw [ht]; exact hP, by rw [hAe]; exact hD⟩, hS.F ht⟩) hS.2.2 dX11_chargeFor_104
          · refine lv_iconst (v := (-1)) hx hb dX11_chargeFor_99 (by decide) ?_
            refine lv_goto (tgt := 104) hx hb dX11_chargeFor_100 (by decide) ?_
            exact W.iret (v := (-1)) hx hb hr (fun t ht hW => ⟨⟨(-1), (ws_25, th1_14), rfl, hT, by rw [ht]; exact hP, by rw [hAe]; exact hD⟩, hS.F ht⟩) hS.2.2 dX11_chargeFor_104
        · refine lv_iload_n hx hb dX11_chargeFor_54 rfl (lv_at hl 3 rfl) ?_
          refine lv_iload hx hb dX11_chargeFor_55 (lv_at hl 4 rfl) ?_
          refine lv_iadd hx hb dX11_chargeFor_57 ?_
          refine lv_iconst (v := 2) hx hb dX11_chargeFor_58 (by decide) ?_
          refine lv_idiv hx hb dX11_chargeFor_59 (by decide) ?_
          refine lv_istore (lv' := [(5, .int ((y_20 + y_21) / 2)), (0, .ref mo), (1, .int p1), (2, .int p2), (3, .int y_20), (4, .int y_21)]) hx hb dX11_chargeFor_60 hl (by decide) rfl (fun ls hl => ?_)
          refine lv_aload_n hx hb dX11_chargeFor_62 rfl (lv_at hl 1 rfl) ?_
          refine lv_iload_n hx hb dX11_chargeFor_63 rfl (lv_at hl 2 rfl) ?_
          refine lv_iload hx hb dX11_chargeFor_64 (lv_at hl 0 rfl) ?_
          refine ty_ki (wr := []) (wc := ([(rf_MO mo mw ma mf m0 m1 mu mv u0 u1 iz th1_14 mb mn mpt mbg mwr mwk mlf men), (rf_RW ct 0 mw 958 f)] ++ ws)) (va_runV (As := [.int p1, .int ((y_20 + y_21) / 2)]) (rest := []) ⟨hx, hb, hml, hown, hts⟩ (m_X11_restAt l D ct S ws ph xx mo mw ma mf m0 m1 mu mv u0 u1 iz mb th1_14 mn mpt mbg mwr mwk mlf men f G cx p1 ((y_20 + y_21) / 2) _ hT h_mu h_mv h_u0 h_u1 hph hy1 hR hz_6 (by have := (rf_mid hex_48.1 hex_48.2 hc_22); have := hex_48; omega)) (cm_V 2 hts kc_X11_restAt ki_RX11 kl_RX11_231 kv_X11_restAt kx_X11_restAt kd_X11_restAt ⟨Nat.le_of_ble_eq_true rfl, Nat.le_of_ble_eq_true rfl⟩) (ty_preE (wr := []) (wc := ([(rf_MO mo mw ma mf m0 m1 mu mv u0 u1 iz th1_14 mb mn mpt mbg mwr mwk mlf men), (rf_RW ct 0 mw 958 f)] ++ ws)) (ci := 11) (q0 := 0) hP hK hD hS hA hX rfl rfl) rfl rfl hl.1 rfl (lv_room (Nat.le_of_ble_eq_true rfl)) dX11_chargeFor_66 ⟨Nat.le_of_ble_eq_true rfl, Nat.le_of_ble_eq_true rfl⟩) hP hD hS hA (fun r_27 u H locs hw_28 hP hD hS => ?_)
          obtain ⟨ws_29, rfl⟩ : ∃ z, z = u := ⟨_, rfl⟩
          have hT := hw_28
          have hP : va_P D vwCl ([(rf_MO mo mw ma mf m0 m1 mu mv u0 u1 iz th1_14 mb mn mpt mbg mwr mwk mlf men), (rf_RW ct 0 mw 958 f)] ++ ws_29) H := hP
          have hD : va_D A ([(rf_MO mo mw ma mf m0 m1 mu mv u0 u1 iz th1_14 mb mn mpt mbg mwr mwk mlf men), (rf_RW ct 0 mw 958 f)] ++ ws_29) := hD
          refine lv_iload_n hx hb dX11_chargeFor_69 rfl (lv_at hl 3 rfl) ?_
          refine lv_icmp_lt (tgt := 80) hx hb dX11_chargeFor_70 (by decide) (fun hc_30 => ?_) (fun hc_30 => ?_)
          · refine lv_iload hx hb dX11_chargeFor_80 (lv_at hl 0 rfl) ?_
            refine lv_iconst (v := 1) hx hb dX11_chargeFor_82 (by decide) ?_
            refine lv_iadd hx hb dX11_chargeFor_83 ?_
            refine lv_istore_n (lv' := [(3, .int (((y_20 + y_21) / 2) + 1)), (5, .int ((y_20 + y_21) / 2)), (0, .ref mo), (1, .int p1), (2, .int p2), (4, .int y_21)]) hx hb dX11_chargeFor_84 rfl hl (by decide) rfl (fun ls hl => ?_)
            refine lv_goto (tgt := 48) hx hb dX11_chargeFor_85 (by decide) ?_
            exact ih_48 _ _ _ _ (by have := (rf_mid hex_48.1 hex_48.2 hc_22); have o : (1 : Int32).toInt = 1 := (by decide); have := hex_48; have := rf_inc9 (x := (y_20 + y_21) / 2) (a := 0) (b := 100000) (by omega) (by omega) (by omega); have e : (((y_20 + y_21) / 2) + 1).toInt = ((y_20 + y_21) / 2).toInt + 1 := rf_p1 (by omega); have := rf_lth hc_22; omega) ⟨ws_29, (((y_20 + y_21) / 2) + 1), y_21, rfl, hT, hP, hD, hS, (lv_sub hl [2, 3, 4, 0, 5] rfl), (by have := (rf_mid hex_48.1 hex_48.2 hc_22); have := hex_48; have e : (((y_20 + y_21) / 2) + 1).toInt = ((y_20 + y_21) / 2).toInt + 1 := rf_p1 (by omega); omega)⟩
          · refine lv_iload hx hb dX11_chargeFor_73 (lv_at hl 0 rfl) ?_
            refine lv_istore (lv' := [(4, .int ((y_20 + y_21) / 2)), (5, .int ((y_20 + y_21) / 2)), (0, .ref mo), (1, .int p1), (2, .int p2), (3, .int y_20)]) hx hb dX11_chargeFor_75 hl (by decide) rfl (fun ls hl => ?_)
            refine lv_goto (tgt := 85) hx hb dX11_chargeFor_77 (by decide) ?_
            refine lv_goto (tgt := 48) hx hb dX11_chargeFor_85 (by decide) ?_
            exact ih_48 _ _ _ _ (by have := (rf_mid hex_48.1 hex_48.2 hc_22); have o : (1 : Int32).toInt = 1 := (by decide); have := hex_48; have := rf_inc9 (x := (y_20 + y_21) / 2) (a := 0) (b := 100000) (by omega) (by omega) (by omega); have e : (((y_20 + y_21) / 2) + 1).toInt = ((y_20 + y_21) / 2).toInt + 1 := rf_p1 (by omega); have := rf_lth hc_22; omega) ⟨ws_29, y_20, ((y_20 + y_21) / 2), rfl, hT, hP, hD, hS, (lv_sub hl [2, 3, 4, 5, 0] rfl), (by have := (rf_mid hex_48.1 hex_48.2 hc_22); have := hex_48; have e : (((y_20 + y_21) / 2) + 1).toInt = ((y_20 + y_21) / 2).toInt + 1 := rf_p1 (by omega); omega)⟩
      · refine lv_if_eq (tgt := 35) hx hb dX11_chargeFor_30 (by decide) (fun hc => absurd hc (by decide)) (fun _ => ?_)
        refine lv_iconst (v := 0) hx hb dX11_chargeFor_33 (by decide) ?_
        have hP : va_P D vwCl ([(rf_MO mo mw ma mf m0 m1 mu mv u0 u1 iz th1_14 mb mn mpt mbg mwr mwk mlf men), (rf_RW ct 0 mw 958 f)] ++ ws_13) H := ty_permP hP (ty_ordp (E := [(rf_RW ct 0 mw 958 f), (rf_MO mo mw ma mf m0 m1 mu mv u0 u1 iz th1_14 mb mn mpt mbg mwr mwk mlf men)]) (E2 := [(rf_MO mo mw ma mf m0 m1 mu mv u0 u1 iz th1_14 mb mn mpt mbg mwr mwk mlf men), (rf_RW ct 0 mw 958 f)]) (n := 2) [1, 0] rfl rfl (by decide))
        have hD : va_D A ([(rf_MO mo mw ma mf m0 m1 mu mv u0 u1 iz th1_14 mb mn mpt mbg mwr mwk mlf men), (rf_RW ct 0 mw 958 f)] ++ ws_13) := ty_permD hD (ty_ordp (E := [(rf_RW ct 0 mw 958 f), (rf_MO mo mw ma mf m0 m1 mu mv u0 u1 iz th1_14 mb mn mpt mbg mwr mwk mlf men)]) (E2 := [(rf_MO mo mw ma mf m0 m1 mu mv u0 u1 iz th1_14 mb mn mpt mbg mwr mwk mlf men), (rf_RW ct 0 mw 958 f)]) (n := 2) [1, 0] rfl rfl (by decide))
        exact W.iret (v := 0) hx hb hr (fun t ht hW => ⟨⟨0, (ws_13, th1_14), rfl, hT, by rw [ht]; exact hP, by rw [hAe]; exact hD⟩, hS.F ht⟩) hS.2.2 dX11_chargeFor_34
    · refine lv_iconst (v := 1) hx hb dX11_chargeFor_21 (by decide) ?_
      refine lv_goto (tgt := 26) hx hb dX11_chargeFor_22 (by decide) ?_
      refine lv_iconst (v := 2) hx hb dX11_chargeFor_26 (by decide) ?_
      have hP : va_P D vwCl ([(rf_RW ct 0 mw 958 f), (rf_MO mo mw ma mf m0 m1 mu mv u0 u1 iz th1_4 mb mn mpt mbg mwr mwk mlf men)] ++ ws_9) H := ty_permP hP (ty_ordp (E := [(rf_MO mo mw ma mf m0 m1 mu mv u0 u1 iz th1_4 mb mn mpt mbg mwr mwk mlf men), (rf_RW ct 0 mw 958 f)]) (E2 := [(rf_RW ct 0 mw 958 f), (rf_MO mo mw ma mf m0 m1 mu mv u0 u1 iz th1_4 mb mn mpt mbg mwr mwk mlf men)]) (n := 2) [1, 0] rfl rfl (by decide))
      have hD : va_D A ([(rf_RW ct 0 mw 958 f), (rf_MO mo mw ma mf m0 m1 mu mv u0 u1 iz th1_4 mb mn mpt mbg mwr mwk mlf men)] ++ ws_9) := ty_permD hD (ty_ordp (E := [(rf_MO mo mw ma mf m0 m1 mu mv u0 u1 iz th1_4 mb mn mpt mbg mwr mwk mlf men), (rf_RW ct 0 mw 958 f)]) (E2 := [(rf_RW ct 0 mw 958 f), (rf_MO mo mw ma mf m0 m1 mu mv u0 u1 iz th1_4 mb mn mpt mbg mwr mwk mlf men)]) (n := 2) [1, 0] rfl rfl (by decide))
      refine ty_ki (wr := [(rf_RW ct 0 mw 958 f)]) (wc := ([(rf_MO mo mw ma mf m0 m1 mu mv u0 u1 iz th1_4 mb mn mpt mbg mwr mwk mlf men)] ++ ws_9)) (va_runV (As := [.int 1, .int 2]) (rest := []) ⟨hx, hb, hml, hown, hts⟩ (m_X11_throwsIf l D ct S ws_9 ph xx mo mw ma mf m0 m1 mu mv u0 u1 iz mb th1_4 mn mpt mbg mwr mwk mlf men (1 : Int32) (2 : Int32) _ hT h_mu h_mv h_u0 h_u1 hph hy1 (by decide)) (cm_V 2 hts kc_X11_throwsIf ki_RX11 kl_RX11_328 kv_X11_throwsIf kx_X11_throwsIf kd_X11_throwsIf ⟨Nat.le_of_ble_eq_true rfl, Nat.le_of_ble_eq_true rfl⟩) (ty_preE (wr := [(rf_RW ct 0 mw 958 f)]) (wc := ([(rf_MO mo mw ma mf m0 m1 mu mv u0 u1 iz th1_4 mb mn mpt mbg mwr mwk mlf men)] ++ ws_9)) (ci := 11) (q0 := 1) hP hK hD hS hA hX rfl rfl) rfl rfl hl.1 rfl (lv_room (Nat.le_of_ble_eq_true rfl)) dX11_chargeFor_27 ⟨Nat.le_of_ble_eq_true rfl, Nat.le_of_ble_eq_true rfl⟩) hP hD hS hA (fun r_31 u H locs hw_32 hP hD hS => ?_)
      obtain ⟨ws_33, th1_34⟩ := u
      obtain ⟨hT, hp_35⟩ := hw_32
      have hp_35 : ((r_31 = 0 ∧ (1 : Int32) = 0) ∨ r_31 = 1) := hp_35
      have hP : va_P D vwCl ([(rf_RW ct 0 mw 958 f), (rf_MO mo mw ma mf m0 m1 mu mv u0 u1 iz th1_34 mb mn mpt mbg mwr mwk mlf men)] ++ ws_33) H := hP
      have hD : va_D A ([(rf_RW ct 0 mw 958 f), (rf_MO mo mw ma mf m0 m1 mu mv u0 u1 iz th1_34 mb mn mpt mbg mwr mwk mlf men)] ++ ws_33) := hD
      rcases hp_35 with ⟨rfl, hz_36⟩ | rfl
      · exact absurd hz_36 (by decide)
      · refine lv_if_eq (tgt := 35) hx hb dX11_chargeFor_30 (by decide) (fun hc => absurd hc (by decide)) (fun _ => ?_)
        refine lv_iconst (v := 0) hx hb dX11_chargeFor_33 (by decide) ?_
        have hP : va_P D vwCl ([(rf_MO mo mw ma mf m0 m1 mu mv u0 u1 iz th1_34 mb mn mpt mbg mwr mwk mlf men), (rf_RW ct 0 mw 958 f)] ++ ws_33) H := ty_permP hP (ty_ordp (E := [(rf_RW ct 0 mw 958 f), (rf_MO mo mw ma mf m0 m1 mu mv u0 u1 iz th1_34 mb mn mpt mbg mwr mwk mlf men)]) (E2 := [(rf_MO mo mw ma mf m0 m1 mu mv u0 u1 iz th1_34 mb mn mpt mbg mwr mwk mlf men), (rf_RW ct 0 mw 958 f)]) (n := 2) [1, 0] rfl rfl (by decide))
        have hD : va_D A ([(rf_MO mo mw ma mf m0 m1 mu mv u0 u1 iz th1_34 mb mn mpt mbg mwr mwk mlf men), (rf_RW ct 0 mw 958 f)] ++ ws_33) := ty_permD hD (ty_ordp (E := [(rf_RW ct 0 mw 958 f), (rf_MO mo mw ma mf m0 m1 mu mv u0 u1 iz th1_34 mb mn mpt mbg mwr mwk mlf men)]) (E2 := [(rf_MO mo mw ma mf m0 m1 mu mv u0 u1 iz th1_34 mb mn mpt mbg mwr mwk mlf men), (rf_RW ct 0 mw 958 f)]) (n := 2) [1, 0] rfl rfl (by decide))
        exact W.iret (v := 0) hx hb hr (fun t ht hW => ⟨⟨0, (ws_33, th1_34), rfl, hT, by rw [ht]; exact hP, by rw [hAe]; exact hD⟩, hS.F ht⟩) hS.2.2 dX11_chargeFor_34
  · refine lv_if_ne (tgt := 33) hx hb dX11_chargeFor_5 (by decide) (fun _ => ?_) (fun hc => absurd hc (by decide))
    refine lv_iconst (v := 0) hx hb dX11_chargeFor_33 (by decide) ?_
    exact W.iret (v := 0) hx hb hr (fun t ht hW => ⟨⟨0, (ws_3, th1_4), rfl, hT, by rw [ht]; exact hP, by rw [hAe]; exact hD⟩, hS.F ht⟩) hS.2.2 dX11_chargeFor_34
theorem dX11_repeats_0 : decode cX11_repeats 0 = .ok (.aload_n 0, 1) := by decide +kernel
theorem dX11_repeats_1 : decode cX11_repeats 1 = .ok (.iload_n 1, 1) := by decide +kernel
theorem dX11_repeats_2 : decode cX11_repeats 2 = .ok (.invokevirtual 344, 3) := by decide +kernel
theorem dX11_repeats_5 : decode cX11_repeats 5 = .ok (.ifCond .eq 5, 3) := by decide +kernel
theorem dX11_repeats_8 : decode cX11_repeats 8 = .ok (.iconst 0, 1) := by decide +kernel
theorem dX11_repeats_9 : decode cX11_repeats 9 = .ok (.ireturn, 1) := by decide +kernel
theorem dX11_repeats_10 : decode cX11_repeats 10 = .ok (.aload_n 0, 1) := by decide +kernel
theorem dX11_repeats_11 : decode cX11_repeats 11 = .ok (.iload_n 1, 1) := by decide +kernel
theorem dX11_repeats_12 : decode cX11_repeats 12 = .ok (.iconst 1, 1) := by decide +kernel
theorem dX11_repeats_13 : decode cX11_repeats 13 = .ok (.invokevirtual 209, 3) := by decide +kernel
theorem dX11_repeats_16 : decode cX11_repeats 16 = .ok (.istore_n 3, 1) := by decide +kernel
theorem dX11_repeats_17 : decode cX11_repeats 17 = .ok (.iload_n 3, 1) := by decide +kernel
theorem dX11_repeats_18 : decode cX11_repeats 18 = .ok (.iconst (-1), 1) := by decide +kernel
theorem dX11_repeats_19 : decode cX11_repeats 19 = .ok (.if_icmp .eq 32, 3) := by decide +kernel
theorem dX11_repeats_22 : decode cX11_repeats 22 = .ok (.iload_n 2, 1) := by decide +kernel
theorem dX11_repeats_23 : decode cX11_repeats 23 = .ok (.i2l, 1) := by decide +kernel
theorem dX11_repeats_24 : decode cX11_repeats 24 = .ok (.lconst 0, 1) := by decide +kernel
theorem dX11_repeats_25 : decode cX11_repeats 25 = .ok (.aload_n 0, 1) := by decide +kernel
theorem dX11_repeats_26 : decode cX11_repeats 26 = .ok (.iload_n 3, 1) := by decide +kernel
theorem dX11_repeats_27 : decode cX11_repeats 27 = .ok (.invokevirtual 276, 3) := by decide +kernel
theorem dX11_repeats_30 : decode cX11_repeats 30 = .ok (.iconst 1, 1) := by decide +kernel
theorem dX11_repeats_31 : decode cX11_repeats 31 = .ok (.isub, 1) := by decide +kernel
theorem dX11_repeats_32 : decode cX11_repeats 32 = .ok (.i2l, 1) := by decide +kernel
theorem dX11_repeats_33 : decode cX11_repeats 33 = .ok (.invokestatic 70, 3) := by decide +kernel
theorem dX11_repeats_36 : decode cX11_repeats 36 = .ok (.ifCond .eq 15, 3) := by decide +kernel
theorem dX11_repeats_39 : decode cX11_repeats 39 = .ok (.aload_n 0, 1) := by decide +kernel
theorem dX11_repeats_40 : decode cX11_repeats 40 = .ok (.iload_n 1, 1) := by decide +kernel
theorem dX11_repeats_41 : decode cX11_repeats 41 = .ok (.bipush 24, 2) := by decide +kernel
theorem dX11_repeats_43 : decode cX11_repeats 43 = .ok (.iload_n 2, 1) := by decide +kernel
theorem dX11_repeats_44 : decode cX11_repeats 44 = .ok (.iadd, 1) := by decide +kernel
theorem dX11_repeats_45 : decode cX11_repeats 45 = .ok (.invokevirtual 209, 3) := by decide +kernel
theorem dX11_repeats_48 : decode cX11_repeats 48 = .ok (.goto 4, 3) := by decide +kernel
theorem dX11_repeats_51 : decode cX11_repeats 51 = .ok (.iconst 0, 1) := by decide +kernel
theorem dX11_repeats_52 : decode cX11_repeats 52 = .ok (.ireturn, 1) := by decide +kernel
set_option maxRecDepth 100000 in
set_option maxHeartbeats 4000000 in
theorem m_X11_repeats (l : Launch) (D : va_G) (ct : Nat → ClassId) (S : ty_S) (ws : va_W) (ph : va_W → Prop) (xx : Nat → Nat → Nat → Prop) (mo : Nat) (mw : Nat) (ma : Nat) (mf : Nat) (m0 : Nat) (m1 : Nat) (mu : Nat) (mv : Nat) (u0 : Nat) (u1 : Nat) (iz : Nat) (mb : Nat) (th : Int32) (mn : Int32) (mpt : Int32) (mbg : Int32) (mwr : Int32) (mwk : Int32) (mlf : Int32) (men : Int32) (f : Nat → Int32) (G : Nat → Int32) (cx : Int) (p1 : Int32) (p2 : Int32) (sz : Nat) (hT : ty_V ct S ph ws) (h_mu : S mu = some (.inr (1, 42))) (h_mv : S mv = some (.inr (1, 42))) (h_u0 : S u0 = some (.inr (1, 42))) (h_u1 : S u1 = some (.inr (1, 42))) (hph : ty_C ph xx) (hy1 : ty_y1 xx) (hR : rf_R G cx f) : Met l yX11_repeats (ws_ yX11_repeats cX11_repeats 4 (some .int)) ({ frames := 2, cells := 0, slots := 0, locals := 46 } : Room) (va_Pc [.ref mo, .int p1, .int p2] (cmP D ct sz ([(rf_MO mo mw ma mf m0 m1 mu mv u0 u1 iz th mb mn mpt mbg mwr mwk mlf men), (rf_RW ct 0 mw 958 f)] ++ ws))) (va_Qi (fun (r : Int32) (u : va_W × Int32) => match u with | (u9, th1) => ty_V ct S ph u9) (cmB D ([(rf_MO mo mw ma mf m0 m1 mu mv u0 u1 iz th mb mn mpt mbg mwr mwk mlf men), (rf_RW ct 0 mw 958 f)] ++ ws) sz (fun (u : va_W × Int32) => match u with | (u9, th1) => ([(rf_MO mo mw ma mf m0 m1 mu mv u0 u1 iz th1 mb mn mpt mbg mwr mwk mlf men), (rf_RW ct 0 mw 958 f)] ++ u9))) (va_A ([(rf_MO mo mw ma mf m0 m1 mu mv u0 u1 iz th mb mn mpt mbg mwr mwk mlf men), (rf_RW ct 0 mw 958 f)] ++ ws) sz)) 0 0 (va_A ([(rf_MO mo mw ma mf m0 m1 mu mv u0 u1 iz th mb mn mpt mbg mwr mwk mlf men), (rf_RW ct 0 mw 958 f)] ++ ws) sz) := by
  refine Met.ofW (cc := cX11_repeats) (maxL := 4) (ret := (some .int)) (by decide) rfl ?_
  intro p e s m args below meth c s₁ B hml hv
  obtain ⟨rfl, hsz, hP, hK, hD0, hX⟩ := hv
  have hx := B.exec
  have hb := B.bytes
  have hr := B.returns
  have hts := ws_all (atoms_spec (ws := ws_ yX11_repeats cX11_repeats 4 (some .int)) B.pre)
  have hown : s.vm.findClass RX11 = some m.cls := findClass_of_methodNamed B.named
  have hlocks := B.notSynchronized
  subst hsz
  have hD := hD0.self (sz := s.heap.size)
  generalize hAe : va_A ([(rf_MO mo mw ma mf m0 m1 mu mv u0 u1 iz th mb mn mpt mbg mwr mwk mlf men), (rf_RW ct 0 mw 958 f)] ++ ws) s.heap.size = A at hD hX ⊢
  have hA : ∀ q : Nat, s.heap.size ≤ q → A q := fun q h => by rw [← hAe]; exact Or.inr h
  have hS : va_S A s.heap s.heap [] := va_S.rf
  have hl := lv_entry ([.ref mo, .int p1, .int p2]) (n := 4) (Nat.le_of_ble_eq_true rfl)
  rw [lg_entry_eq]
  generalize (lg_sl ([.ref mo, .int p1, .int p2]) ++ List.replicate (4 - (lg_sl ([.ref mo, .int p1, .int p2])).length) Slot.unset).toArray = ls at hl ⊢
  have hl : lv_has ls 4 [(0, .ref mo), (1, .int p1), (2, .int p2)] := hl
  refine lv_aload_n hx hb dX11_repeats_0 rfl (lv_at hl 0 rfl) ?_
  refine lv_iload_n hx hb dX11_repeats_1 rfl (lv_at hl 1 rfl) ?_
  refine ty_ki (wr := []) (wc := ([(rf_MO mo mw ma mf m0 m1 mu mv u0 u1 iz th mb mn mpt mbg mwr mwk mlf men), (rf_RW ct 0 mw 958 f)] ++ ws)) (va_runV (As := [.int p1]) (rest := []) ⟨hx, hb, hml, hown, hts⟩ (m_X11_noChannel l D ct S ws ph xx mo mw ma mf m0 m1 mu mv u0 u1 iz mb th mn mpt mbg mwr mwk mlf men f G cx p1 _ hT h_mu h_mv h_u0 h_u1 hph hy1 hR) (cm_V 1 hts kc_X11_noChannel ki_RX11 kl_RX11_344 kv_X11_noChannel kx_X11_noChannel kd_X11_noChannel ⟨Nat.le_of_ble_eq_true rfl, Nat.le_of_ble_eq_true rfl⟩) (ty_preE (wr := []) (wc := ([(rf_MO mo mw ma mf m0 m1 mu mv u0 u1 iz th mb mn mpt mbg mwr mwk mlf men), (rf_RW ct 0 mw 958 f)] ++ ws)) (ci := 11) (q0 := 0) hP hK hD hS hA hX rfl rfl) rfl rfl hl.1 rfl (lv_room (Nat.le_of_ble_eq_true rfl)) dX11_repeats_2 ⟨Nat.le_of_ble_eq_true rfl, Nat.le_of_ble_eq_true rfl⟩) hP hD hS hA (fun r_1 u H locs hw_2 hP hD hS => ?_)
  obtain ⟨ws_3, th1_4⟩ := u
  obtain ⟨hT, hp_5⟩ := hw_2
  have hp_5 : ((r_1 = 0 ∧ 0 ≤ p1.toInt ∧ p1.toInt < (G 9).toInt) ∨ r_1 = 1) := hp_5
  have hP : va_P D vwCl ([(rf_MO mo mw ma mf m0 m1 mu mv u0 u1 iz th1_4 mb mn mpt mbg mwr mwk mlf men), (rf_RW ct 0 mw 958 f)] ++ ws_3) H := hP
  have hD : va_D A ([(rf_MO mo mw ma mf m0 m1 mu mv u0 u1 iz th1_4 mb mn mpt mbg mwr mwk mlf men), (rf_RW ct 0 mw 958 f)] ++ ws_3) := hD
  rcases hp_5 with ⟨rfl, hz_6⟩ | rfl
  · refine lv_if_eq (tgt := 10) hx hb dX11_repeats_5 (by decide) (fun _ => ?_) (fun hc => absurd (by decide) hc)
    refine lv_aload_n hx hb dX11_repeats_10 rfl (lv_at hl 0 rfl) ?_
    refine lv_iload_n hx hb dX11_repeats_11 rfl (lv_at hl 1 rfl) ?_
    refine lv_iconst (v := 1) hx hb dX11_repeats_12 (by decide) ?_
    refine ty_ki (wr := []) (wc := ([(rf_MO mo mw ma mf m0 m1 mu mv u0 u1 iz th1_4 mb mn mpt mbg mwr mwk mlf men), (rf_RW ct 0 mw 958 f)] ++ ws_3)) (va_runV (As := [.int p1, .int 1]) (rest := []) ⟨hx, hb, hml, hown, hts⟩ (m_of_1 l D ct S ws_3 ph xx mo mw ma mf m0 m1 mu mv u0 u1 iz mb th1_4 mn mpt mbg mwr mwk mlf men f G cx p1 _ hT h_mu h_mv h_u0 h_u1 hph hy1 hR hz_6) (cm_V 2 hts kc_X11_of ki_RX11 kl_RX11_209 kv_X11_of kx_X11_of kd_X11_of ⟨Nat.le_of_ble_eq_true rfl, Nat.le_of_ble_eq_true rfl⟩) (ty_preE (wr := []) (wc := ([(rf_MO mo mw ma mf m0 m1 mu mv u0 u1 iz th1_4 mb mn mpt mbg mwr mwk mlf men), (rf_RW ct 0 mw 958 f)] ++ ws_3)) (ci := 11) (q0 := 0) hP hK hD hS hA hX rfl rfl) rfl rfl hl.1 rfl (lv_room (Nat.le_of_ble_eq_true rfl)) dX11_repeats_13 ⟨Nat.le_of_ble_eq_true rfl, Nat.le_of_ble_eq_true rfl⟩) hP hD hS hA (fun r_7 u H locs hw_8 hP hD hS => ?_)
    obtain ⟨ws_9, rfl⟩ : ∃ z, z = u := ⟨_, rfl⟩
    obtain ⟨hT, rfl⟩ := hw_8
    have hP : va_P D vwCl ([(rf_MO mo mw ma mf m0 m1 mu mv u0 u1 iz th1_4 mb mn mpt mbg mwr mwk mlf men), (rf_RW ct 0 mw 958 f)] ++ ws_9) H := hP
    have hD : va_D A ([(rf_MO mo mw ma mf m0 m1 mu mv u0 u1 iz th1_4 mb mn mpt mbg mwr mwk mlf men), (rf_RW ct 0 mw 958 f)] ++ ws_9) := hD
    refine lv_istore_n (lv' := [(3, .int (rf_of f p1 1)), (0, .ref mo), (1, .int p1), (2, .int p2)]) hx hb dX11_repeats_16 rfl hl (by decide) rfl (fun ls hl => ?_)
    refine lv_iload_n hx hb dX11_repeats_17 rfl (lv_at hl 0 rfl) ?_
    refine lv_iconst (v := (-1)) hx hb dX11_repeats_18 (by decide) ?_
    refine lv_icmp_eq (tgt := 51) hx hb dX11_repeats_19 (by decide) (fun hc_10 => ?_) (fun hc_10 => ?_)
    · refine lv_iconst (v := 0) hx hb dX11_repeats_51 (by decide) ?_
      exact W.iret (v := 0) hx hb hr (fun t ht hW => ⟨⟨0, (ws_9, th1_4), rfl, hT, by rw [ht]; exact hP, by rw [hAe]; exact hD⟩, hS.F ht⟩) hS.2.2 dX11_repeats_52
    · refine lv_iload_n hx hb dX11_repeats_22 rfl (lv_at hl 3 rfl) ?_
      refine lv_i2l hx hb dX11_repeats_23 rfl ?_
      refine lv_lconst (v := 0) hx hb dX11_repeats_24 (by decide) ?_
      refine lv_aload_n hx hb dX11_repeats_25 rfl (lv_at hl 1 rfl) ?_
      refine lv_iload_n hx hb dX11_repeats_26 rfl (lv_at hl 0 rfl) ?_
      refine ty_ki (wr := []) (wc := ([(rf_MO mo mw ma mf m0 m1 mu mv u0 u1 iz th1_4 mb mn mpt mbg mwr mwk mlf men), (rf_RW ct 0 mw 958 f)] ++ ws_9)) (va_runV (As := [.int (rf_of f p1 1)]) (rest := [.long 0, .long p2.toInt64]) ⟨hx, hb, hml, hown, hts⟩ (m_X11_stepsOf l D ct S ws_9 ph xx mo mw ma mf m0 m1 mu mv u0 u1 iz mb th1_4 mn mpt mbg mwr mwk mlf men f G cx (rf_of f p1 1) _ hT h_mu h_mv h_u0 h_u1 hph hy1 hR (rf_p4 hR (rf_pg hR hz_6 hc_10))) (cm_V 1 hts kc_X11_stepsOf ki_RX11 kl_RX11_276 kv_X11_stepsOf kx_X11_stepsOf kd_X11_stepsOf ⟨Nat.le_of_ble_eq_true rfl, Nat.le_of_ble_eq_true rfl⟩) (ty_preE (wr := []) (wc := ([(rf_MO mo mw ma mf m0 m1 mu mv u0 u1 iz th1_4 mb mn mpt mbg mwr mwk mlf men), (rf_RW ct 0 mw 958 f)] ++ ws_9)) (ci := 11) (q0 := 0) hP hK hD hS hA hX rfl rfl) rfl rfl hl.1 rfl (lv_room (Nat.le_of_ble_eq_true rfl)) dX11_repeats_27 ⟨Nat.le_of_ble_eq_true rfl, Nat.le_of_ble_eq_true rfl⟩) hP hD hS hA (fun r_11 u H locs hw_12 hP hD hS => ?_)
      obtain ⟨ws_13, rfl⟩ : ∃ z, z = u := ⟨_, rfl⟩
      obtain ⟨hT, rfl⟩ := hw_12
      have hP : va_P D vwCl ([(rf_MO mo mw ma mf m0 m1 mu mv u0 u1 iz th1_4 mb mn mpt mbg mwr mwk mlf men), (rf_RW ct 0 mw 958 f)] ++ ws_13) H := hP
      have hD : va_D A ([(rf_MO mo mw ma mf m0 m1 mu mv u0 u1 iz th1_4 mb mn mpt mbg mwr mwk mlf men), (rf_RW ct 0 mw 958 f)] ++ ws_13) := hD
      refine lv_iconst (v := 1) hx hb dX11_repeats_30 (by decide) ?_
      refine lv_isub hx hb dX11_repeats_31 ?_
      refine lv_i2l hx hb dX11_repeats_32 rfl ?_
      refine ty_ki (wr := [(rf_MO mo mw ma mf m0 m1 mu mv u0 u1 iz th1_4 mb mn mpt mbg mwr mwk mlf men), (rf_RW ct 0 mw 958 f)]) (wc := ([] ++ ws_13)) (va_runS (As := [.long p2.toInt64, .long 0, .long (((f (96 + 37 * (rf_of f p1 1).toInt.toNat)) - 1).toInt64)]) (rest := []) ⟨hx, hb, hml, hown, hts⟩ (m_X11_in l D ct S ws_13 ph xx p2.toInt64 (0 : Int64) (((f (96 + 37 * (rf_of f p1 1).toInt.toNat)) - 1).toInt64) _ hT hph hy1) (cm_S 3 hts kc_X11_in ki_RX11 kl_RX11_70 ks_X11_in kd_X11_in ⟨Nat.le_of_ble_eq_true rfl, Nat.le_of_ble_eq_true rfl⟩) (ty_preS (wr := [(rf_MO mo mw ma mf m0 m1 mu mv u0 u1 iz th1_4 mb mn mpt mbg mwr mwk mlf men), (rf_RW ct 0 mw 958 f)]) (wc := ([] ++ ws_13)) hP hK hD hS hA hX) rfl rfl hl.1 rfl (lv_room (Nat.le_of_ble_eq_true rfl)) dX11_repeats_33 ⟨Nat.le_of_ble_eq_true rfl, Nat.le_of_ble_eq_true rfl⟩) hP hD hS hA (fun r_14 u H locs hw_15 hP hD hS => ?_)
      obtain ⟨ws_16, rfl⟩ : ∃ z, z = u := ⟨_, rfl⟩
      obtain ⟨hT, rfl⟩ := hw_15
      have hP : va_P D vwCl ([(rf_MO mo mw ma mf m0 m1 mu mv u0 u1 iz th1_4 mb mn mpt mbg mwr mwk mlf men), (rf_RW ct 0 mw 958 f)] ++ ws_16) H := hP
      have hD : va_D A ([(rf_MO mo mw ma mf m0 m1 mu mv u0 u1 iz th1_4 mb mn mpt mbg mwr mwk mlf men), (rf_RW ct 0 mw 958 f)] ++ ws_16) := hD
      refine lv_if_eq (tgt := 51) hx hb dX11_repeats_36 (by decide) (fun hc_17 => ?_) (fun hc_17 => ?_)
      · refine lv_iconst (v := 0) hx hb dX11_repeats_51 (by decide) ?_
        exact W.iret (v := 0) hx hb hr (fun t ht hW => ⟨⟨0, (ws_16, th1_4), rfl, hT, by rw [ht]; exact hP, by rw [hAe]; exact hD⟩, hS.F ht⟩) hS.2.2 dX11_repeats_52
      · refine lv_aload_n hx hb dX11_repeats_39 rfl (lv_at hl 1 rfl) ?_
        refine lv_iload_n hx hb dX11_repeats_40 rfl (lv_at hl 2 rfl) ?_
        refine lv_bipush (v := 24) hx hb dX11_repeats_41 (by decide) ?_
        refine lv_iload_n hx hb dX11_repeats_43 rfl (lv_at hl 3 rfl) ?_
        refine lv_iadd hx hb dX11_repeats_44 ?_
        refine ty_ki (wr := []) (wc := ([(rf_MO mo mw ma mf m0 m1 mu mv u0 u1 iz th1_4 mb mn mpt mbg mwr mwk mlf men), (rf_RW ct 0 mw 958 f)] ++ ws_16)) (va_runV (As := [.int p1, .int (24 + p2)]) (rest := []) ⟨hx, hb, hml, hown, hts⟩ (m_of_v l D ct S ws_16 ph xx mo mw ma mf m0 m1 mu mv u0 u1 iz mb th1_4 mn mpt mbg mwr mwk mlf men f G cx p1 (24 + p2) _ hT h_mu h_mv h_u0 h_u1 hph hy1 hR hz_6 (by have := rf_psn hR (rf_pg hR hz_6 hc_10); have := rf_rngi (L := 0) (by decide) (by omega) (rf_ne0 hc_17); have := rf_ty (y := p2) (by omega); omega)) (cm_V 2 hts kc_X11_of ki_RX11 kl_RX11_209 kv_X11_of kx_X11_of kd_X11_of ⟨Nat.le_of_ble_eq_true rfl, Nat.le_of_ble_eq_true rfl⟩) (ty_preE (wr := []) (wc := ([(rf_MO mo mw ma mf m0 m1 mu mv u0 u1 iz th1_4 mb mn mpt mbg mwr mwk mlf men), (rf_RW ct 0 mw 958 f)] ++ ws_16)) (ci := 11) (q0 := 0) hP hK hD hS hA hX rfl rfl) rfl rfl hl.1 rfl (lv_room (Nat.le_of_ble_eq_true rfl)) dX11_repeats_45 ⟨Nat.le_of_ble_eq_true rfl, Nat.le_of_ble_eq_true rfl⟩) hP hD hS hA (fun r_18 u H locs hw_19 hP hD hS => ?_)
        obtain ⟨ws_20, rfl⟩ : ∃ z, z = u := ⟨_, rfl⟩
        obtain ⟨hT, rfl⟩ := hw_19
        have hP : va_P D vwCl ([(rf_MO mo mw ma mf m0 m1 mu mv u0 u1 iz th1_4 mb mn mpt mbg mwr mwk mlf men), (rf_RW ct 0 mw 958 f)] ++ ws_20) H := hP
        have hD : va_D A ([(rf_MO mo mw ma mf m0 m1 mu mv u0 u1 iz th1_4 mb mn mpt mbg mwr mwk mlf men), (rf_RW ct 0 mw 958 f)] ++ ws_20) := hD
        refine lv_goto (tgt := 52) hx hb dX11_repeats_48 (by decide) ?_
        exact W.iret (v := (rf_of f p1 (24 + p2).toInt.toNat)) hx hb hr (fun t ht hW => ⟨⟨(rf_of f p1 (24 + p2).toInt.toNat), (ws_20, th1_4), rfl, hT, by rw [ht]; exact hP, by rw [hAe]; exact hD⟩, hS.F ht⟩) hS.2.2 dX11_repeats_52
  · refine lv_if_eq (tgt := 10) hx hb dX11_repeats_5 (by decide) (fun hc => absurd hc (by decide)) (fun _ => ?_)
    refine lv_iconst (v := 0) hx hb dX11_repeats_8 (by decide) ?_
    exact W.iret (v := 0) hx hb hr (fun t ht hW => ⟨⟨0, (ws_3, th1_4), rfl, hT, by rw [ht]; exact hP, by rw [hAe]; exact hD⟩, hS.F ht⟩) hS.2.2 dX11_repeats_9
theorem dX11_ledger_0 : decode cX11_ledger 0 = .ok (.aload_n 0, 1) := by decide +kernel
theorem dX11_ledger_1 : decode cX11_ledger 1 = .ok (.iload_n 1, 1) := by decide +kernel
theorem dX11_ledger_2 : decode cX11_ledger 2 = .ok (.invokevirtual 344, 3) := by decide +kernel
theorem dX11_ledger_5 : decode cX11_ledger 5 = .ok (.ifCond .ne 28, 3) := by decide +kernel
theorem dX11_ledger_8 : decode cX11_ledger 8 = .ok (.aload_n 0, 1) := by decide +kernel
theorem dX11_ledger_9 : decode cX11_ledger 9 = .ok (.iload_n 2, 1) := by decide +kernel
theorem dX11_ledger_10 : decode cX11_ledger 10 = .ok (.i2l, 1) := by decide +kernel
theorem dX11_ledger_11 : decode cX11_ledger 11 = .ok (.lconst 0, 1) := by decide +kernel
theorem dX11_ledger_12 : decode cX11_ledger 12 = .ok (.ldc2_w 364, 3) := by decide +kernel
theorem dX11_ledger_15 : decode cX11_ledger 15 = .ok (.invokestatic 70, 3) := by decide +kernel
theorem dX11_ledger_18 : decode cX11_ledger 18 = .ok (.ifCond .ne 7, 3) := by decide +kernel
theorem dX11_ledger_21 : decode cX11_ledger 21 = .ok (.iconst 1, 1) := by decide +kernel
theorem dX11_ledger_22 : decode cX11_ledger 22 = .ok (.goto 4, 3) := by decide +kernel
theorem dX11_ledger_25 : decode cX11_ledger 25 = .ok (.iconst 0, 1) := by decide +kernel
theorem dX11_ledger_26 : decode cX11_ledger 26 = .ok (.iconst 2, 1) := by decide +kernel
theorem dX11_ledger_27 : decode cX11_ledger 27 = .ok (.invokevirtual 328, 3) := by decide +kernel
theorem dX11_ledger_30 : decode cX11_ledger 30 = .ok (.ifCond .eq 5, 3) := by decide +kernel
theorem dX11_ledger_33 : decode cX11_ledger 33 = .ok (.lconst 0, 1) := by decide +kernel
theorem dX11_ledger_34 : decode cX11_ledger 34 = .ok (.lreturn, 1) := by decide +kernel
theorem dX11_ledger_35 : decode cX11_ledger 35 = .ok (.iload_n 2, 1) := by decide +kernel
theorem dX11_ledger_36 : decode cX11_ledger 36 = .ok (.iconst 2, 1) := by decide +kernel
theorem dX11_ledger_37 : decode cX11_ledger 37 = .ok (.if_icmp .ne 14, 3) := by decide +kernel
theorem dX11_ledger_40 : decode cX11_ledger 40 = .ok (.aload_n 0, 1) := by decide +kernel
theorem dX11_ledger_41 : decode cX11_ledger 41 = .ok (.iload_n 1, 1) := by decide +kernel
theorem dX11_ledger_42 : decode cX11_ledger 42 = .ok (.bipush 18, 2) := by decide +kernel
theorem dX11_ledger_44 : decode cX11_ledger 44 = .ok (.invokevirtual 209, 3) := by decide +kernel
theorem dX11_ledger_47 : decode cX11_ledger 47 = .ok (.i2l, 1) := by decide +kernel
theorem dX11_ledger_48 : decode cX11_ledger 48 = .ok (.goto 20, 3) := by decide +kernel
theorem dX11_ledger_51 : decode cX11_ledger 51 = .ok (.aload_n 0, 1) := by decide +kernel
theorem dX11_ledger_52 : decode cX11_ledger 52 = .ok (.iload_n 1, 1) := by decide +kernel
theorem dX11_ledger_53 : decode cX11_ledger 53 = .ok (.iload_n 2, 1) := by decide +kernel
theorem dX11_ledger_54 : decode cX11_ledger 54 = .ok (.iconst 2, 1) := by decide +kernel
theorem dX11_ledger_55 : decode cX11_ledger 55 = .ok (.if_icmp .ge 7, 3) := by decide +kernel
theorem dX11_ledger_58 : decode cX11_ledger 58 = .ok (.iload_n 2, 1) := by decide +kernel
theorem dX11_ledger_59 : decode cX11_ledger 59 = .ok (.goto 6, 3) := by decide +kernel
theorem dX11_ledger_62 : decode cX11_ledger 62 = .ok (.iload_n 2, 1) := by decide +kernel
theorem dX11_ledger_63 : decode cX11_ledger 63 = .ok (.iconst 1, 1) := by decide +kernel
theorem dX11_ledger_64 : decode cX11_ledger 64 = .ok (.isub, 1) := by decide +kernel
theorem dX11_ledger_65 : decode cX11_ledger 65 = .ok (.invokevirtual 261, 3) := by decide +kernel
theorem dX11_ledger_68 : decode cX11_ledger 68 = .ok (.lreturn, 1) := by decide +kernel
set_option maxRecDepth 100000 in
set_option maxHeartbeats 4000000 in
theorem m_X11_ledger (l : Launch) (D : va_G) (ct : Nat → ClassId) (S : ty_S) (ws : va_W) (ph : va_W → Prop) (xx : Nat → Nat → Nat → Prop) (mo : Nat) (mw : Nat) (ma : Nat) (mf : Nat) (m0 : Nat) (m1 : Nat) (mu : Nat) (mv : Nat) (u0 : Nat) (u1 : Nat) (iz : Nat) (mb : Nat) (th : Int32) (mn : Int32) (mpt : Int32) (mbg : Int32) (mwr : Int32) (mwk : Int32) (mlf : Int32) (men : Int32) (f : Nat → Int32) (G : Nat → Int32) (cx : Int) (p1 : Int32) (p2 : Int32) (sz : Nat) (hT : ty_V ct S ph ws) (h_mu : S mu = some (.inr (1, 42))) (h_mv : S mv = some (.inr (1, 42))) (h_u0 : S u0 = some (.inr (1, 42))) (h_u1 : S u1 = some (.inr (1, 42))) (hph : ty_C ph xx) (hy1 : ty_y1 xx) (hR : rf_R G cx f) : Met l yX11_ledger (ws_ yX11_ledger cX11_ledger 3 (some .long)) ({ frames := 2, cells := 0, slots := 0, locals := 46 } : Room) (va_Pc [.ref mo, .int p1, .int p2] (cmP D ct sz ([(rf_MO mo mw ma mf m0 m1 mu mv u0 u1 iz th mb mn mpt mbg mwr mwk mlf men), (rf_RW ct 0 mw 958 f)] ++ ws))) (va_Ql (fun (r : Int64) (u : va_W × Int32) => match u with | (u9, th1) => ty_V ct S ph u9) (cmB D ([(rf_MO mo mw ma mf m0 m1 mu mv u0 u1 iz th mb mn mpt mbg mwr mwk mlf men), (rf_RW ct 0 mw 958 f)] ++ ws) sz (fun (u : va_W × Int32) => match u with | (u9, th1) => ([(rf_MO mo mw ma mf m0 m1 mu mv u0 u1 iz th1 mb mn mpt mbg mwr mwk mlf men), (rf_RW ct 0 mw 958 f)] ++ u9))) (va_A ([(rf_MO mo mw ma mf m0 m1 mu mv u0 u1 iz th mb mn mpt mbg mwr mwk mlf men), (rf_RW ct 0 mw 958 f)] ++ ws) sz)) 0 0 (va_A ([(rf_MO mo mw ma mf m0 m1 mu mv u0 u1 iz th mb mn mpt mbg mwr mwk mlf men), (rf_RW ct 0 mw 958 f)] ++ ws) sz) := by
  refine Met.ofW (cc := cX11_ledger) (maxL := 3) (ret := (some .long)) (by decide) rfl ?_
  intro p e s m args below meth c s₁ B hml hv
  obtain ⟨rfl, hsz, hP, hK, hD0, hX⟩ := hv
  have hx := B.exec
  have hb := B.bytes
  have hr := B.returns
  have hts := ws_all (atoms_spec (ws := ws_ yX11_ledger cX11_ledger 3 (some .long)) B.pre)
  have hown : s.vm.findClass RX11 = some m.cls := findClass_of_methodNamed B.named
  have hlocks := B.notSynchronized
  subst hsz
  have hD := hD0.self (sz := s.heap.size)
  generalize hAe : va_A ([(rf_MO mo mw ma mf m0 m1 mu mv u0 u1 iz th mb mn mpt mbg mwr mwk mlf men), (rf_RW ct 0 mw 958 f)] ++ ws) s.heap.size = A at hD hX ⊢
  have hA : ∀ q : Nat, s.heap.size ≤ q → A q := fun q h => by rw [← hAe]; exact Or.inr h
  have hS : va_S A s.heap s.heap [] := va_S.rf
  have hl := lv_entry ([.ref mo, .int p1, .int p2]) (n := 3) (Nat.le_of_ble_eq_true rfl)
  rw [lg_entry_eq]
  generalize (lg_sl ([.ref mo, .int p1, .int p2]) ++ List.replicate (3 - (lg_sl ([.ref mo, .int p1, .int p2])).length) Slot.unset).toArray = ls at hl ⊢
  have hl : lv_has ls 3 [(0, .ref mo), (1, .int p1), (2, .int p2)] := hl
  refine lv_aload_n hx hb dX11_ledger_0 rfl (lv_at hl 0 rfl) ?_
  refine lv_iload_n hx hb dX11_ledger_1 rfl (lv_at hl 1 rfl) ?_
  refine ty_ki (wr := []) (wc := ([(rf_MO mo mw ma mf m0 m1 mu mv u0 u1 iz th mb mn mpt mbg mwr mwk mlf men), (rf_RW ct 0 mw 958 f)] ++ ws)) (va_runV (As := [.int p1]) (rest := []) ⟨hx, hb, hml, hown, hts⟩ (m_X11_noChannel l D ct S ws ph xx mo mw ma mf m0 m1 mu mv u0 u1 iz mb th mn mpt mbg mwr mwk mlf men f G cx p1 _ hT h_mu h_mv h_u0 h_u1 hph hy1 hR) (cm_V 1 hts kc_X11_noChannel ki_RX11 kl_RX11_344 kv_X11_noChannel kx_X11_noChannel kd_X11_noChannel ⟨Nat.le_of_ble_eq_true rfl, Nat.le_of_ble_eq_true rfl⟩) (ty_preE (wr := []) (wc := ([(rf_MO mo mw ma mf m0 m1 mu mv u0 u1 iz th mb mn mpt mbg mwr mwk mlf men), (rf_RW ct 0 mw 958 f)] ++ ws)) (ci := 11) (q0 := 0) hP hK hD hS hA hX rfl rfl) rfl rfl hl.1 rfl (lv_room (Nat.le_of_ble_eq_true rfl)) dX11_ledger_2 ⟨Nat.le_of_ble_eq_true rfl, Nat.le_of_ble_eq_true rfl⟩) hP hD hS hA (fun r_1 u H locs hw_2 hP hD hS => ?_)
  obtain ⟨ws_3, th1_4⟩ := u
  obtain ⟨hT, hp_5⟩ := hw_2
  have hp_5 : ((r_1 = 0 ∧ 0 ≤ p1.toInt ∧ p1.toInt < (G 9).toInt) ∨ r_1 = 1) := hp_5
  have hP : va_P D vwCl ([(rf_MO mo mw ma mf m0 m1 mu mv u0 u1 iz th1_4 mb mn mpt mbg mwr mwk mlf men), (rf_RW ct 0 mw 958 f)] ++ ws_3) H := hP
  have hD : va_D A ([(rf_MO mo mw ma mf m0 m1 mu mv u0 u1 iz th1_4 mb mn mpt mbg mwr mwk mlf men), (rf_RW ct 0 mw 958 f)] ++ ws_3) := hD
  rcases hp_5 with ⟨rfl, hz_6⟩ | rfl
  · refine lv_if_ne (tgt := 33) hx hb dX11_ledger_5 (by decide) (fun hc => absurd (by decide) hc) (fun _ => ?_)
    refine lv_aload_n hx hb dX11_ledger_8 rfl (lv_at hl 0 rfl) ?_
    refine lv_iload_n hx hb dX11_ledger_9 rfl (lv_at hl 2 rfl) ?_
    refine lv_i2l hx hb dX11_ledger_10 rfl ?_
    refine lv_lconst (v := 0) hx hb dX11_ledger_11 (by decide) ?_
    refine lv_ldc2 hx hb hown (hts _ kl_RX11_364) dX11_ledger_12 ?_
    refine ty_ki (wr := [(rf_MO mo mw ma mf m0 m1 mu mv u0 u1 iz th1_4 mb mn mpt mbg mwr mwk mlf men), (rf_RW ct 0 mw 958 f)]) (wc := ([] ++ ws_3)) (va_runS (As := [.long p2.toInt64, .long 0, .long 4]) (rest := [.ref mo]) ⟨hx, hb, hml, hown, hts⟩ (m_X11_in l D ct S ws_3 ph xx p2.toInt64 (0 : Int64) (4 : Int64) _ hT hph hy1) (cm_S 3 hts kc_X11_in ki_RX11 kl_RX11_70 ks_X11_in kd_X11_in ⟨Nat.le_of_ble_eq_true rfl, Nat.le_of_ble_eq_true rfl⟩) (ty_preS (wr := [(rf_MO mo mw ma mf m0 m1 mu mv u0 u1 iz th1_4 mb mn mpt mbg mwr mwk mlf men), (rf_RW ct 0 mw 958 f)]) (wc := ([] ++ ws_3)) hP hK hD hS hA hX) rfl rfl hl.1 rfl (lv_room (Nat.le_of_ble_eq_true rfl)) dX11_ledger_15 ⟨Nat.le_of_ble_eq_true rfl, Nat.le_of_ble_eq_true rfl⟩) hP hD hS hA (fun r_7 u H locs hw_8 hP hD hS => ?_)
    obtain ⟨ws_9, rfl⟩ : ∃ z, z = u := ⟨_, rfl⟩
    obtain ⟨hT, rfl⟩ := hw_8
    have hP : va_P D vwCl ([(rf_MO mo mw ma mf m0 m1 mu mv u0 u1 iz th1_4 mb mn mpt mbg mwr mwk mlf men), (rf_RW ct 0 mw 958 f)] ++ ws_9) H := hP
    have hD : va_D A ([(rf_MO mo mw ma mf m0 m1 mu mv u0 u1 iz th1_4 mb mn mpt mbg mwr mwk mlf men), (rf_RW ct 0 mw 958 f)] ++ ws_9) := hD
    refine lv_if_ne (tgt := 25) hx hb dX11_ledger_18 (by decide) (fun hc_10 => ?_) (fun hc_10 => ?_)
    · refine lv_iconst (v := 0) hx hb dX11_ledger_25 (by decide) ?_
      refine lv_iconst (v := 2) hx hb dX11_ledger_26 (by decide) ?_
      have hP : va_P D vwCl ([(rf_RW ct 0 mw 958 f), (rf_MO mo mw ma mf m0 m1 mu mv u0 u1 iz th1_4 mb mn mpt mbg mwr mwk mlf men)] ++ ws_9) H := ty_permP hP (ty_ordp (E := [(rf_MO mo mw ma mf m0 m1 mu mv u0 u1 iz th1_4 mb mn mpt mbg mwr mwk mlf men), (rf_RW ct 0 mw 958 f)]) (E2 := [(rf_RW ct 0 mw 958 f), (rf_MO mo mw ma mf m0 m1 mu mv u0 u1 iz th1_4 mb mn mpt mbg mwr mwk mlf men)]) (n := 2) [1, 0] rfl rfl (by decide))
      have hD : va_D A ([(rf_RW ct 0 mw 958 f), (rf_MO mo mw ma mf m0 m1 mu mv u0 u1 iz th1_4 mb mn mpt mbg mwr mwk mlf men)] ++ ws_9) := ty_permD hD (ty_ordp (E := [(rf_MO mo mw ma mf m0 m1 mu mv u0 u1 iz th1_4 mb mn mpt mbg mwr mwk mlf men), (rf_RW ct 0 mw 958 f)]) (E2 := [(rf_RW ct 0 mw 958 f), (rf_MO mo mw ma mf m0 m1 mu mv u0 u1 iz th1_4 mb mn mpt mbg mwr mwk mlf men)]) (n := 2) [1, 0] rfl rfl (by decide))
      refine ty_ki (wr := [(rf_RW ct 0 mw 958 f)]) (wc := ([(rf_MO mo mw ma mf m0 m1 mu mv u0 u1 iz th1_4 mb mn mpt mbg mwr mwk mlf men)] ++ ws_9)) (va_runV (As := [.int 0, .int 2]) (rest := []) ⟨hx, hb, hml, hown, hts⟩ (m_X11_throwsIf l D ct S ws_9 ph xx mo mw ma mf m0 m1 mu mv u0 u1 iz mb th1_4 mn mpt mbg mwr mwk mlf men (0 : Int32) (2 : Int32) _ hT h_mu h_mv h_u0 h_u1 hph hy1 (by decide)) (cm_V 2 hts kc_X11_throwsIf ki_RX11 kl_RX11_328 kv_X11_throwsIf kx_X11_throwsIf kd_X11_throwsIf ⟨Nat.le_of_ble_eq_true rfl, Nat.le_of_ble_eq_true rfl⟩) (ty_preE (wr := [(rf_RW ct 0 mw 958 f)]) (wc := ([(rf_MO mo mw ma mf m0 m1 mu mv u0 u1 iz th1_4 mb mn mpt mbg mwr mwk mlf men)] ++ ws_9)) (ci := 11) (q0 := 1) hP hK hD hS hA hX rfl rfl) rfl rfl hl.1 rfl (lv_room (Nat.le_of_ble_eq_true rfl)) dX11_ledger_27 ⟨Nat.le_of_ble_eq_true rfl, Nat.le_of_ble_eq_true rfl⟩) hP hD hS hA (fun r_11 u H locs hw_12 hP hD hS => ?_)
      obtain ⟨ws_13, th1_14⟩ := u
      obtain ⟨hT, hp_15⟩ := hw_12
      have hp_15 : ((r_11 = 0 ∧ (0 : Int32) = 0) ∨ r_11 = 1) := hp_15
      have hP : va_P D vwCl ([(rf_RW ct 0 mw 958 f), (rf_MO mo mw ma mf m0 m1 mu mv u0 u1 iz th1_14 mb mn mpt mbg mwr mwk mlf men)] ++ ws_13) H := hP
      have hD : va_D A ([(rf_RW ct 0 mw 958 f), (rf_MO mo mw ma mf m0 m1 mu mv u0 u1 iz th1_14 mb mn mpt mbg mwr mwk mlf men)] ++ ws_13) := hD
      rcases hp_15 with ⟨rfl, hz_16⟩ | rfl
      · refine lv_if_eq (tgt := 35) hx hb dX11_ledger_30 (by decide) (fun _ => ?_) (fun hc => absurd (by decide) hc)
        refine lv_iload_n hx hb dX11_ledger_35 rfl (lv_at hl 2 rfl) ?_
        refine lv_iconst (v := 2) hx hb dX11_ledger_36 (by decide) ?_
        refine lv_icmp_ne (tgt := 51) hx hb dX11_ledger_37 (by decide) (fun hc_17 => ?_) (fun hc_17 => ?_)
        · refine lv_aload_n hx hb dX11_ledger_51 rfl (lv_at hl 0 rfl) ?_
          refine lv_iload_n hx hb dX11_ledger_52 rfl (lv_at hl 1 rfl) ?_
          refine lv_iload_n hx hb dX11_ledger_53 rfl (lv_at hl 2 rfl) ?_
          refine lv_iconst (v := 2) hx hb dX11_ledger_54 (by decide) ?_
          refine lv_icmp_ge (tgt := 62) hx hb dX11_ledger_55 (by decide) (fun hc_18 => ?_) (fun hc_18 => ?_)
          · refine lv_iload_n hx hb dX11_ledger_62 rfl (lv_at hl 2 rfl) ?_
            refine lv_iconst (v := 1) hx hb dX11_ledger_63 (by decide) ?_
            refine lv_isub hx hb dX11_ledger_64 ?_
            refine ty_kl (wr := [(rf_RW ct 0 mw 958 f)]) (wc := ([(rf_MO mo mw ma mf m0 m1 mu mv u0 u1 iz th1_14 mb mn mpt mbg mwr mwk mlf men)] ++ ws_13)) (va_runV (As := [.int p1, .int (p2 - 1)]) (rest := []) ⟨hx, hb, hml, hown, hts⟩ (m_X11_sum l D ct S ws_13 ph xx mo mw ma mf m0 m1 mu mv u0 u1 iz mb th1_14 mn mpt mbg mwr mwk mlf men p1 (p2 - 1) _ hT h_mu h_mv h_u0 h_u1 hph hy1 (rf_c6 hR hz_6) (by have := (rf_rngc (L := 0) (U := 4) (by decide) (by decide) hc_10); have o : (1 : Int32).toInt = 1 := (by decide); have := rf_ge2 hc_18; have := rf_dec9 (x := p2) (a := 1) (b := 4) (by omega) (by omega); omega)) (cm_V 2 hts kc_X11_sum ki_RX11 kl_RX11_261 kv_X11_sum kx_X11_sum kd_X11_sum ⟨Nat.le_of_ble_eq_true rfl, Nat.le_of_ble_eq_true rfl⟩) (ty_preE (wr := [(rf_RW ct 0 mw 958 f)]) (wc := ([(rf_MO mo mw ma mf m0 m1 mu mv u0 u1 iz th1_14 mb mn mpt mbg mwr mwk mlf men)] ++ ws_13)) (ci := 11) (q0 := 1) hP hK hD hS hA hX rfl rfl) rfl rfl hl.1 rfl (lv_room (Nat.le_of_ble_eq_true rfl)) dX11_ledger_65 ⟨Nat.le_of_ble_eq_true rfl, Nat.le_of_ble_eq_true rfl⟩) hP hD hS hA (fun r_19 u H locs hw_20 hP hD hS => ?_)
            obtain ⟨ws_21, rfl⟩ : ∃ z, z = u := ⟨_, rfl⟩
            have hT := hw_20
            have hP : va_P D vwCl ([(rf_RW ct 0 mw 958 f), (rf_MO mo mw ma mf m0 m1 mu mv u0 u1 iz th1_14 mb mn mpt mbg mwr mwk mlf men)] ++ ws_21) H := hP
            have hD : va_D A ([(rf_RW ct 0 mw 958 f), (rf_MO mo mw ma mf m0 m1 mu mv u0 u1 iz th1_14 mb mn mpt mbg mwr mwk mlf men)] ++ ws_21) := hD
            have hP : va_P D vwCl ([(rf_MO mo mw ma mf m0 m1 mu mv u0 u1 iz th1_14 mb mn mpt mbg mwr mwk mlf men), (rf_RW ct 0 mw 958 f)] ++ ws_21) H := ty_permP hP (ty_ordp (E := [(rf_RW ct 0 mw 958 f), (rf_MO mo mw ma mf m0 m1 mu mv u0 u1 iz th1_14 mb mn mpt mbg mwr mwk mlf men)]) (E2 := [(rf_MO mo mw ma mf m0 m1 mu mv u0 u1 iz th1_14 mb mn mpt mbg mwr mwk mlf men), (rf_RW ct 0 mw 958 f)]) (n := 2) [1, 0] rfl rfl (by decide))
            have hD : va_D A ([(rf_MO mo mw ma mf m0 m1 mu mv u0 u1 iz th1_14 mb mn mpt mbg mwr mwk mlf men), (rf_RW ct 0 mw 958 f)] ++ ws_21) := ty_permD hD (ty_ordp (E := [(rf_RW ct 0 mw 958 f), (rf_MO mo mw ma mf m0 m1 mu mv u0 u1 iz th1_14 mb mn mpt mbg mwr mwk mlf men)]) (E2 := [(rf_MO mo mw ma mf m0 m1 mu mv u0 u1 iz th1_14 mb mn mpt mbg mwr mwk mlf men), (rf_RW ct 0 mw 958 f)]) (n := 2) [1, 0] rfl rfl (by decide))
            exact W.lret (v := r_19) hx hb hr (fun t ht hW => ⟨⟨r_19, (ws_21, th1_14), rfl, hT, by rw [ht]; exact hP, by rw [hAe]; exact hD⟩, hS.F ht⟩) hS.2.2 dX11_ledger_68
          · refine lv_iload_n hx hb dX11_ledger_58 rfl (lv_at hl 2 rfl) ?_
            refine lv_goto (tgt := 65) hx hb dX11_ledger_59 (by decide) ?_
            refine ty_kl (wr := [(rf_RW ct 0 mw 958 f)]) (wc := ([(rf_MO mo mw ma mf m0 m1 mu mv u0 u1 iz th1_14 mb mn mpt mbg mwr mwk mlf men)] ++ ws_13)) (va_runV (As := [.int p1, .int p2]) (rest := []) ⟨hx, hb, hml, hown, hts⟩ (m_X11_sum l D ct S ws_13 ph xx mo mw ma mf m0 m1 mu mv u0 u1 iz mb th1_14 mn mpt mbg mwr mwk mlf men p1 p2 _ hT h_mu h_mv h_u0 h_u1 hph hy1 (rf_c6 hR hz_6) (by have := (rf_rngc (L := 0) (U := 4) (by decide) (by decide) hc_10); have := rf_ng (b := 2) (by decide) hc_18; omega)) (cm_V 2 hts kc_X11_sum ki_RX11 kl_RX11_261 kv_X11_sum kx_X11_sum kd_X11_sum ⟨Nat.le_of_ble_eq_true rfl, Nat.le_of_ble_eq_true rfl⟩) (ty_preE (wr := [(rf_RW ct 0 mw 958 f)]) (wc := ([(rf_MO mo mw ma mf m0 m1 mu mv u0 u1 iz th1_14 mb mn mpt mbg mwr mwk mlf men)] ++ ws_13)) (ci := 11) (q0 := 1) hP hK hD hS hA hX rfl rfl) rfl rfl hl.1 rfl (lv_room (Nat.le_of_ble_eq_true rfl)) dX11_ledger_65 ⟨Nat.le_of_ble_eq_true rfl, Nat.le_of_ble_eq_true rfl⟩) hP hD hS hA (fun r_22 u H locs hw_23 hP hD hS => ?_)
            obtain ⟨ws_24, rfl⟩ : ∃ z, z = u := ⟨_, rfl⟩
            have hT := hw_23
            have hP : va_P D vwCl ([(rf_RW ct 0 mw 958 f), (rf_MO mo mw ma mf m0 m1 mu mv u0 u1 iz th1_14 mb mn mpt mbg mwr mwk mlf men)] ++ ws_24) H := hP
            have hD : va_D A ([(rf_RW ct 0 mw 958 f), (rf_MO mo mw ma mf m0 m1 mu mv u0 u1 iz th1_14 mb mn mpt mbg mwr mwk mlf men)] ++ ws_24) := hD
            have hP : va_P D vwCl ([(rf_MO mo mw ma mf m0 m1 mu mv u0 u1 iz th1_14 mb mn mpt mbg mwr mwk mlf men), (rf_RW ct 0 mw 958 f)] ++ ws_24) H := ty_permP hP (ty_ordp (E := [(rf_RW ct 0 mw 958 f), (rf_MO mo mw ma mf m0 m1 mu mv u0 u1 iz th1_14 mb mn mpt mbg mwr mwk mlf men)]) (E2 := [(rf_MO mo mw ma mf m0 m1 mu mv u0 u1 iz th1_14 mb mn mpt mbg mwr mwk mlf men), (rf_RW ct 0 mw 958 f)]) (n := 2) [1, 0] rfl rfl (by decide))
            have hD : va_D A ([(rf_MO mo mw ma mf m0 m1 mu mv u0 u1 iz th1_14 mb mn mpt mbg mwr mwk mlf men), (rf_RW ct 0 mw 958 f)] ++ ws_24) := ty_permD hD (ty_ordp (E := [(rf_RW ct 0 mw 958 f), (rf_MO mo mw ma mf m0 m1 mu mv u0 u1 iz th1_14 mb mn mpt mbg mwr mwk mlf men)]) (E2 := [(rf_MO mo mw ma mf m0 m1 mu mv u0 u1 iz th1_14 mb mn mpt mbg mwr mwk mlf men), (rf_RW ct 0 mw 958 f)]) (n := 2) [1, 0] rfl rfl (by decide))
            exact W.lret (v := r_22) hx hb hr (fun t ht hW => ⟨⟨r_22, (ws_24, th1_14), rfl, hT, by rw [ht]; exact hP, by rw [hAe]; exact hD⟩, hS.F ht⟩) hS.2.2 dX11_ledger_68
        · refine lv_aload_n hx hb dX11_ledger_40 rfl (lv_at hl 0 rfl) ?_
          refine lv_iload_n hx hb dX11_ledger_41 rfl (lv_at hl 1 rfl) ?_
          refine lv_bipush (v := 18) hx hb dX11_ledger_42 (by decide) ?_
          have hP : va_P D vwCl ([(rf_MO mo mw ma mf m0 m1 mu mv u0 u1 iz th1_14 mb mn mpt mbg mwr mwk mlf men), (rf_RW ct 0 mw 958 f)] ++ ws_13) H := ty_permP hP (ty_ordp (E := [(rf_RW ct 0 mw 958 f), (rf_MO mo mw ma mf m0 m1 mu mv u0 u1 iz th1_14 mb mn mpt mbg mwr mwk mlf men)]) (E2 := [(rf_MO mo mw ma mf m0 m1 mu mv u0 u1 iz th1_14 mb mn mpt mbg mwr mwk mlf men), (rf_RW ct 0 mw 958 f)]) (n := 2) [1, 0] rfl rfl (by decide))
          have hD : va_D A ([(rf_MO mo mw ma mf m0 m1 mu mv u0 u1 iz th1_14 mb mn mpt mbg mwr mwk mlf men), (rf_RW ct 0 mw 958 f)] ++ ws_13) := ty_permD hD (ty_ordp (E := [(rf_RW ct 0 mw 958 f), (rf_MO mo mw ma mf m0 m1 mu mv u0 u1 iz th1_14 mb mn mpt mbg mwr mwk mlf men)]) (E2 := [(rf_MO mo mw ma mf m0 m1 mu mv u0 u1 iz th1_14 mb mn mpt mbg mwr mwk mlf men), (rf_RW ct 0 mw 958 f)]) (n := 2) [1, 0] rfl rfl (by decide))
          refine ty_ki (wr := []) (wc := ([(rf_MO mo mw ma mf m0 m1 mu mv u0 u1 iz th1_14 mb mn mpt mbg mwr mwk mlf men), (rf_RW ct 0 mw 958 f)] ++ ws_13)) (va_runV (As := [.int p1, .int 18]) (rest := []) ⟨hx, hb, hml, hown, hts⟩ (m_of_18 l D ct S ws_13 ph xx mo mw ma mf m0 m1 mu mv u0 u1 iz mb th1_14 mn mpt mbg mwr mwk mlf men f G cx p1 _ hT h_mu h_mv h_u0 h_u1 hph hy1 hR hz_6) (cm_V 2 hts kc_X11_of ki_RX11 kl_RX11_209 kv_X11_of kx_X11_of kd_X11_of ⟨Nat.le_of_ble_eq_true rfl, Nat.le_of_ble_eq_true rfl⟩) (ty_preE (wr := []) (wc := ([(rf_MO mo mw ma mf m0 m1 mu mv u0 u1 iz th1_14 mb mn mpt mbg mwr mwk mlf men), (rf_RW ct 0 mw 958 f)] ++ ws_13)) (ci := 11) (q0 := 0) hP hK hD hS hA hX rfl rfl) rfl rfl hl.1 rfl (lv_room (Nat.le_of_ble_eq_true rfl)) dX11_ledger_44 ⟨Nat.le_of_ble_eq_true rfl, Nat.le_of_ble_eq_true rfl⟩) hP hD hS hA (fun r_25 u H locs hw_26 hP hD hS => ?_)
          obtain ⟨ws_27, rfl⟩ : ∃ z, z = u := ⟨_, rfl⟩
          obtain ⟨hT, rfl⟩ := hw_26
          have hP : va_P D vwCl ([(rf_MO mo mw ma mf m0 m1 mu mv u0 u1 iz th1_14 mb mn mpt mbg mwr mwk mlf men), (rf_RW ct 0 mw 958 f)] ++ ws_27) H := hP
          have hD : va_D A ([(rf_MO mo mw ma mf m0 m1 mu mv u0 u1 iz th1_14 mb mn mpt mbg mwr mwk mlf men), (rf_RW ct 0 mw 958 f)] ++ ws_27) := hD
          refine lv_i2l hx hb dX11_ledger_47 rfl ?_
          refine lv_goto (tgt := 68) hx hb dX11_ledger_48 (by decide) ?_
          exact W.lret (v := (rf_of f p1 18).toInt64) hx hb hr (fun t ht hW => ⟨⟨(rf_of f p1 18).toInt64, (ws_27, th1_14), rfl, hT, by rw [ht]; exact hP, by rw [hAe]; exact hD⟩, hS.F ht⟩) hS.2.2 dX11_ledger_68
      · refine lv_if_eq (tgt := 35) hx hb dX11_ledger_30 (by decide) (fun hc => absurd hc (by decide)) (fun _ => ?_)
        refine lv_lconst (v := 0) hx hb dX11_ledger_33 (by decide) ?_
        have hP : va_P D vwCl ([(rf_MO mo mw ma mf m0 m1 mu mv u0 u1 iz th1_14 mb mn mpt mbg mwr mwk mlf men), (rf_RW ct 0 mw 958 f)] ++ ws_13) H := ty_permP hP (ty_ordp (E := [(rf_RW ct 0 mw 958 f), (rf_MO mo mw ma mf m0 m1 mu mv u0 u1 iz th1_14 mb mn mpt mbg mwr mwk mlf men)]) (E2 := [(rf_MO mo mw ma mf m0 m1 mu mv u0 u1 iz th1_14 mb mn mpt mbg mwr mwk mlf men), (rf_RW ct 0 mw 958 f)]) (n := 2) [1, 0] rfl rfl (by decide))
        have hD : va_D A ([(rf_MO mo mw ma mf m0 m1 mu mv u0 u1 iz th1_14 mb mn mpt mbg mwr mwk mlf men), (rf_RW ct 0 mw 958 f)] ++ ws_13) := ty_permD hD (ty_ordp (E := [(rf_RW ct 0 mw 958 f), (rf_MO mo mw ma mf m0 m1 mu mv u0 u1 iz th1_14 mb mn mpt mbg mwr mwk mlf men)]) (E2 := [(rf_MO mo mw ma mf m0 m1 mu mv u0 u1 iz th1_14 mb mn mpt mbg mwr mwk mlf men), (rf_RW ct 0 mw 958 f)]) (n := 2) [1, 0] rfl rfl (by decide))
        exact W.lret (v := 0) hx hb hr (fun t ht hW => ⟨⟨0, (ws_13, th1_14), rfl, hT, by rw [ht]; exact hP, by rw [hAe]; exact hD⟩, hS.F ht⟩) hS.2.2 dX11_ledger_34
    · refine lv_iconst (v := 1) hx hb dX11_ledger_21 (by decide) ?_
      refine lv_goto (tgt := 26) hx hb dX11_ledger_22 (by decide) ?_
      refine lv_iconst (v := 2) hx hb dX11_ledger_26 (by decide) ?_
      have hP : va_P D vwCl ([(rf_RW ct 0 mw 958 f), (rf_MO mo mw ma mf m0 m1 mu mv u0 u1 iz th1_4 mb mn mpt mbg mwr mwk mlf men)] ++ ws_9) H := ty_permP hP (ty_ordp (E := [(rf_MO mo mw ma mf m0 m1 mu mv u0 u1 iz th1_4 mb mn mpt mbg mwr mwk mlf men), (rf_RW ct 0 mw 958 f)]) (E2 := [(rf_RW ct 0 mw 958 f), (rf_MO mo mw ma mf m0 m1 mu mv u0 u1 iz th1_4 mb mn mpt mbg mwr mwk mlf men)]) (n := 2) [1, 0] rfl rfl (by decide))
      have hD : va_D A ([(rf_RW ct 0 mw 958 f), (rf_MO mo mw ma mf m0 m1 mu mv u0 u1 iz th1_4 mb mn mpt mbg mwr mwk mlf men)] ++ ws_9) := ty_permD hD (ty_ordp (E := [(rf_MO mo mw ma mf m0 m1 mu mv u0 u1 iz th1_4 mb mn mpt mbg mwr mwk mlf men), (rf_RW ct 0 mw 958 f)]) (E2 := [(rf_RW ct 0 mw 958 f), (rf_MO mo mw ma mf m0 m1 mu mv u0 u1 iz th1_4 mb mn mpt mbg mwr mwk mlf men)]) (n := 2) [1, 0] rfl rfl (by decide))
      refine ty_ki (wr := [(rf_RW ct 0 mw 958 f)]) (wc := ([(rf_MO mo mw ma mf m0 m1 mu mv u0 u1 iz th1_4 mb mn mpt mbg mwr mwk mlf men)] ++ ws_9)) (va_runV (As := [.int 1, .int 2]) (rest := []) ⟨hx, hb, hml, hown, hts⟩ (m_X11_throwsIf l D ct S ws_9 ph xx mo mw ma mf m0 m1 mu mv u0 u1 iz mb th1_4 mn mpt mbg mwr mwk mlf men (1 : Int32) (2 : Int32) _ hT h_mu h_mv h_u0 h_u1 hph hy1 (by decide)) (cm_V 2 hts kc_X11_throwsIf ki_RX11 kl_RX11_328 kv_X11_throwsIf kx_X11_throwsIf kd_X11_throwsIf ⟨Nat.le_of_ble_eq_true rfl, Nat.le_of_ble_eq_true rfl⟩) (ty_preE (wr := [(rf_RW ct 0 mw 958 f)]) (wc := ([(rf_MO mo mw ma mf m0 m1 mu mv u0 u1 iz th1_4 mb mn mpt mbg mwr mwk mlf men)] ++ ws_9)) (ci := 11) (q0 := 1) hP hK hD hS hA hX rfl rfl) rfl rfl hl.1 rfl (lv_room (Nat.le_of_ble_eq_true rfl)) dX11_ledger_27 ⟨Nat.le_of_ble_eq_true rfl, Nat.le_of_ble_eq_true rfl⟩) hP hD hS hA (fun r_28 u H locs hw_29 hP hD hS => ?_)
      obtain ⟨ws_30, th1_31⟩ := u
      obtain ⟨hT, hp_32⟩ := hw_29
      have hp_32 : ((r_28 = 0 ∧ (1 : Int32) = 0) ∨ r_28 = 1) := hp_32
      have hP : va_P D vwCl ([(rf_RW ct 0 mw 958 f), (rf_MO mo mw ma mf m0 m1 mu mv u0 u1 iz th1_31 mb mn mpt mbg mwr mwk mlf men)] ++ ws_30) H := hP
      have hD : va_D A ([(rf_RW ct 0 mw 958 f), (rf_MO mo mw ma mf m0 m1 mu mv u0 u1 iz th1_31 mb mn mpt mbg mwr mwk mlf men)] ++ ws_30) := hD
      rcases hp_32 with ⟨rfl, hz_33⟩ | rfl
      · exact absurd hz_33 (by decide)
      · refine lv_if_eq (tgt := 35) hx hb dX11_ledger_30 (by decide) (fun hc => absurd hc (by decide)) (fun _ => ?_)
        refine lv_lconst (v := 0) hx hb dX11_ledger_33 (by decide) ?_
        have hP : va_P D vwCl ([(rf_MO mo mw ma mf m0 m1 mu mv u0 u1 iz th1_31 mb mn mpt mbg mwr mwk mlf men), (rf_RW ct 0 mw 958 f)] ++ ws_30) H := ty_permP hP (ty_ordp (E := [(rf_RW ct 0 mw 958 f), (rf_MO mo mw ma mf m0 m1 mu mv u0 u1 iz th1_31 mb mn mpt mbg mwr mwk mlf men)]) (E2 := [(rf_MO mo mw ma mf m0 m1 mu mv u0 u1 iz th1_31 mb mn mpt mbg mwr mwk mlf men), (rf_RW ct 0 mw 958 f)]) (n := 2) [1, 0] rfl rfl (by decide))
        have hD : va_D A ([(rf_MO mo mw ma mf m0 m1 mu mv u0 u1 iz th1_31 mb mn mpt mbg mwr mwk mlf men), (rf_RW ct 0 mw 958 f)] ++ ws_30) := ty_permD hD (ty_ordp (E := [(rf_RW ct 0 mw 958 f), (rf_MO mo mw ma mf m0 m1 mu mv u0 u1 iz th1_31 mb mn mpt mbg mwr mwk mlf men)]) (E2 := [(rf_MO mo mw ma mf m0 m1 mu mv u0 u1 iz th1_31 mb mn mpt mbg mwr mwk mlf men), (rf_RW ct 0 mw 958 f)]) (n := 2) [1, 0] rfl rfl (by decide))
        exact W.lret (v := 0) hx hb hr (fun t ht hW => ⟨⟨0, (ws_30, th1_31), rfl, hT, by rw [ht]; exact hP, by rw [hAe]; exact hD⟩, hS.F ht⟩) hS.2.2 dX11_ledger_34
  · refine lv_if_ne (tgt := 33) hx hb dX11_ledger_5 (by decide) (fun _ => ?_) (fun hc => absurd hc (by decide))
    refine lv_lconst (v := 0) hx hb dX11_ledger_33 (by decide) ?_
    exact W.lret (v := 0) hx hb hr (fun t ht hW => ⟨⟨0, (ws_3, th1_4), rfl, hT, by rw [ht]; exact hP, by rw [hAe]; exact hD⟩, hS.F ht⟩) hS.2.2 dX11_ledger_34
