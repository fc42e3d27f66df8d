theorem dX11_turns_0 : decode cX11_turns 0 = .ok (.aload_n 0, 1) := by decide +kernel
theorem dX11_turns_1 : decode cX11_turns 1 = .ok (.iload_n 1, 1) := by decide +kernel
theorem dX11_turns_2 : decode cX11_turns 2 = .ok (.invokevirtual 344, 3) := by decide +kernel
theorem dX11_turns_5 : decode cX11_turns 5 = .ok (.ifCond .eq 5, 3) := by decide +kernel
theorem dX11_turns_8 : decode cX11_turns 8 = .ok (.iconst 0, 1) := by decide +kernel
theorem dX11_turns_9 : decode cX11_turns 9 = .ok (.ireturn, 1) := by decide +kernel
theorem dX11_turns_10 : decode cX11_turns 10 = .ok (.aload_n 0, 1) := by decide +kernel
theorem dX11_turns_11 : decode cX11_turns 11 = .ok (.iload_n 1, 1) := by decide +kernel
theorem dX11_turns_12 : decode cX11_turns 12 = .ok (.iload_n 2, 1) := by decide +kernel
theorem dX11_turns_13 : decode cX11_turns 13 = .ok (.invokevirtual 350, 3) := by decide +kernel
theorem dX11_turns_16 : decode cX11_turns 16 = .ok (.ifCond .ne 6, 3) := by decide +kernel
theorem dX11_turns_19 : decode cX11_turns 19 = .ok (.bipush (-3), 2) := by decide +kernel
theorem dX11_turns_21 : decode cX11_turns 21 = .ok (.ireturn, 1) := by decide +kernel
theorem dX11_turns_22 : decode cX11_turns 22 = .ok (.aload_n 0, 1) := by decide +kernel
theorem dX11_turns_23 : decode cX11_turns 23 = .ok (.iload_n 1, 1) := by decide +kernel
theorem dX11_turns_24 : decode cX11_turns 24 = .ok (.iconst 0, 1) := by decide +kernel
theorem dX11_turns_25 : decode cX11_turns 25 = .ok (.iload_n 3, 1) := by decide +kernel
theorem dX11_turns_26 : decode cX11_turns 26 = .ok (.invokevirtual 234, 3) := by decide +kernel
theorem dX11_turns_29 : decode cX11_turns 29 = .ok (.aload_n 0, 1) := by decide +kernel
theorem dX11_turns_30 : decode cX11_turns 30 = .ok (.iload_n 1, 1) := by decide +kernel
theorem dX11_turns_31 : decode cX11_turns 31 = .ok (.iconst 2, 1) := by decide +kernel
theorem dX11_turns_32 : decode cX11_turns 32 = .ok (.invokevirtual 209, 3) := by decide +kernel
theorem dX11_turns_35 : decode cX11_turns 35 = .ok (.ireturn, 1) := by decide +kernel
set_option maxRecDepth 100000 in
set_option maxHeartbeats 4000000 in
theorem m_X11_turns (l : Launch) (D : va_G) (ct : Nat → ClassId) (S : ty_S) (ws : va_W) (ph : va_W → Prop) (xx : Nat → Nat → Nat → Prop) (mo : Nat) (mw : Nat) (ma : Nat) (mf : Nat) (m0 : Nat) (m1 : Nat) (mu : Nat) (mv : Nat) (u0 : Nat) (u1 : Nat) (iz : Nat) (mb : Nat) (th : Int32) (mn : Int32) (mpt : Int32) (mbg : Int32) (mwr : Int32) (mwk : Int32) (mlf : Int32) (men : Int32) (f : Nat → Int32) (G : Nat → Int32) (p1 : Int32) (p2 : Int32) (p3 : Int32) (sz : Nat) (hT : ty_V ct S ph ws) (h_mu : S mu = some (.inr (1, 42))) (h_mv : S mv = some (.inr (1, 42))) (h_u0 : S u0 = some (.inr (1, 42))) (h_u1 : S u1 = some (.inr (1, 42))) (hph : ty_C ph xx) (hy1 : ty_y1 xx) (hR : rf_R G (-1) f) (hft : (p2 = 1 ∧ p3 = 2) ∨ (p2 = 2 ∧ p3 = 1)) : Met l yX11_turns (ws_ yX11_turns cX11_turns 4 (some .int)) ({ frames := 2, cells := 0, slots := 0, locals := 46 } : Room) (va_Pc [.ref mo, .int p1, .int p2, .int p3] (cmP D ct sz ([(rf_MO mo mw ma mf m0 m1 mu mv u0 u1 iz th mb mn mpt mbg mwr mwk mlf men), (rf_RW ct 0 mw 958 f)] ++ ws))) (va_Qi (fun (r : Int32) (u : va_W × Int32 × (Nat → Int32)) => match u with | (u9, th1, f1) => ty_V ct S ph u9 ∧ rf_d (f 8) f f1 ∧ rf_R G (-1) f1) (cmB D ([(rf_MO mo mw ma mf m0 m1 mu mv u0 u1 iz th mb mn mpt mbg mwr mwk mlf men), (rf_RW ct 0 mw 958 f)] ++ ws) sz (fun (u : va_W × Int32 × (Nat → Int32)) => match u with | (u9, th1, f1) => ([(rf_MO mo mw ma mf m0 m1 mu mv u0 u1 iz th1 mb mn mpt mbg mwr mwk mlf men), (rf_RW ct 0 mw 958 f1)] ++ u9))) (va_A ([(rf_MO mo mw ma mf m0 m1 mu mv u0 u1 iz th mb mn mpt mbg mwr mwk mlf men), (rf_RW ct 0 mw 958 f)] ++ ws) sz)) 0 0 (va_A ([(rf_MO mo mw ma mf m0 m1 mu mv u0 u1 iz th mb mn mpt mbg mwr mwk mlf men), (rf_RW ct 0 mw 958 f)] ++ ws) sz) := by
  refine Met.ofW (cc := cX11_turns) (maxL := 4) (ret := (some .int)) (by decide) rfl ?_
  intro p e s m args below meth c s₁ B hml hv
  obtain ⟨rfl, hsz, hP, hK, hD0, hX⟩ := hv
  have hx := B.exec
  have hb := B.bytes
  have hr := B.returns
  have hts := ws_all (atoms_spec (ws := ws_ yX11_turns cX11_turns 4 (some .int)) B.pre)
  have hown : s.vm.findClass RX11 = some m.cls := findClass_of_methodNamed B.named
  have hlocks := B.notSynchronized
  subst hsz
  have hD := hD0.self (sz := s.heap.size)
  generalize hAe : va_A ([(rf_MO mo mw ma mf m0 m1 mu mv u0 u1 iz th mb mn mpt mbg mwr mwk mlf men), (rf_RW ct 0 mw 958 f)] ++ ws) s.heap.size = A at hD hX ⊢
  have hA : ∀ q : Nat, s.heap.size ≤ q → A q := fun q h => by rw [← hAe]; exact Or.inr h
  have hS : va_S A s.heap s.heap [] := va_S.rf
  have hl := lv_entry ([.ref mo, .int p1, .int p2, .int p3]) (n := 4) (Nat.le_of_ble_eq_true rfl)
  rw [lg_entry_eq]
  generalize (lg_sl ([.ref mo, .int p1, .int p2, .int p3]) ++ List.replicate (4 - (lg_sl ([.ref mo, .int p1, .int p2, .int p3])).length) Slot.unset).toArray = ls at hl ⊢
  have hl : lv_has ls 4 [(0, .ref mo), (1, .int p1), (2, .int p2), (3, .int p3)] := hl
  refine lv_aload_n hx hb dX11_turns_0 rfl (lv_at hl 0 rfl) ?_
  refine lv_iload_n hx hb dX11_turns_1 rfl (lv_at hl 1 rfl) ?_
  refine ty_ki (wr := []) (wc := ([(rf_MO mo mw ma mf m0 m1 mu mv u0 u1 iz th mb mn mpt mbg mwr mwk mlf men), (rf_RW ct 0 mw 958 f)] ++ ws)) (va_runV (As := [.int p1]) (rest := []) ⟨hx, hb, hml, hown, hts⟩ (m_X11_noChannel l D ct S ws ph xx mo mw ma mf m0 m1 mu mv u0 u1 iz mb th mn mpt mbg mwr mwk mlf men f G (-1) p1 _ hT h_mu h_mv h_u0 h_u1 hph hy1 hR) (cm_V 1 hts kc_X11_noChannel ki_RX11 kl_RX11_344 kv_X11_noChannel kx_X11_noChannel kd_X11_noChannel ⟨Nat.le_of_ble_eq_true rfl, Nat.le_of_ble_eq_true rfl⟩) (ty_preE (wr := []) (wc := ([(rf_MO mo mw ma mf m0 m1 mu mv u0 u1 iz th mb mn mpt mbg mwr mwk mlf men), (rf_RW ct 0 mw 958 f)] ++ ws)) (ci := 11) (q0 := 0) hP hK hD hS hA hX rfl rfl) rfl rfl hl.1 rfl (lv_room (Nat.le_of_ble_eq_true rfl)) dX11_turns_2 ⟨Nat.le_of_ble_eq_true rfl, Nat.le_of_ble_eq_true rfl⟩) hP hD hS hA (fun r_1 u H locs hw_2 hP hD hS => ?_)
  obtain ⟨ws_3, th1_4⟩ := u
  obtain ⟨hT, hp_5⟩ := hw_2
  have hp_5 : ((r_1 = 0 ∧ 0 ≤ p1.toInt ∧ p1.toInt < (G 9).toInt) ∨ r_1 = 1) := hp_5
  have hP : va_P D vwCl ([(rf_MO mo mw ma mf m0 m1 mu mv u0 u1 iz th1_4 mb mn mpt mbg mwr mwk mlf men), (rf_RW ct 0 mw 958 f)] ++ ws_3) H := hP
  have hD : va_D A ([(rf_MO mo mw ma mf m0 m1 mu mv u0 u1 iz th1_4 mb mn mpt mbg mwr mwk mlf men), (rf_RW ct 0 mw 958 f)] ++ ws_3) := hD
  rcases hp_5 with ⟨rfl, hz_6⟩ | rfl
  · refine lv_if_eq (tgt := 10) hx hb dX11_turns_5 (by decide) (fun _ => ?_) (fun hc => absurd (by decide) hc)
    refine lv_aload_n hx hb dX11_turns_10 rfl (lv_at hl 0 rfl) ?_
    refine lv_iload_n hx hb dX11_turns_11 rfl (lv_at hl 1 rfl) ?_
    refine lv_iload_n hx hb dX11_turns_12 rfl (lv_at hl 2 rfl) ?_
    refine ty_ki (wr := []) (wc := ([(rf_MO mo mw ma mf m0 m1 mu mv u0 u1 iz th1_4 mb mn mpt mbg mwr mwk mlf men), (rf_RW ct 0 mw 958 f)] ++ ws_3)) (va_runV (As := [.int p1, .int p2]) (rest := []) ⟨hx, hb, hml, hown, hts⟩ (m_X11_isIn l D ct S ws_3 ph xx mo mw ma mf m0 m1 mu mv u0 u1 iz mb th1_4 mn mpt mbg mwr mwk mlf men f G (-1) p1 p2 _ hT h_mu h_mv h_u0 h_u1 hph hy1 hR hz_6) (cm_V 2 hts kc_X11_isIn ki_RX11 kl_RX11_350 kv_X11_isIn kx_X11_isIn kd_X11_isIn ⟨Nat.le_of_ble_eq_true rfl, Nat.le_of_ble_eq_true rfl⟩) (ty_preE (wr := []) (wc := ([(rf_MO mo mw ma mf m0 m1 mu mv u0 u1 iz th1_4 mb mn mpt mbg mwr mwk mlf men), (rf_RW ct 0 mw 958 f)] ++ ws_3)) (ci := 11) (q0 := 0) hP hK hD hS hA hX rfl rfl) rfl rfl hl.1 rfl (lv_room (Nat.le_of_ble_eq_true rfl)) dX11_turns_13 ⟨Nat.le_of_ble_eq_true rfl, Nat.le_of_ble_eq_true rfl⟩) hP hD hS hA (fun r_7 u H locs hw_8 hP hD hS => ?_)
    obtain ⟨ws_9, rfl⟩ : ∃ z, z = u := ⟨_, rfl⟩
    obtain ⟨hT, hp_10⟩ := hw_8
    have hp_10 : ((r_7 = 0 ∧ ¬ rf_of f p1 0 = p2) ∨ (r_7 = 1 ∧ rf_of f p1 0 = p2)) := hp_10
    have hP : va_P D vwCl ([(rf_MO mo mw ma mf m0 m1 mu mv u0 u1 iz th1_4 mb mn mpt mbg mwr mwk mlf men), (rf_RW ct 0 mw 958 f)] ++ ws_9) H := hP
    have hD : va_D A ([(rf_MO mo mw ma mf m0 m1 mu mv u0 u1 iz th1_4 mb mn mpt mbg mwr mwk mlf men), (rf_RW ct 0 mw 958 f)] ++ ws_9) := hD
    rcases hp_10 with ⟨rfl, hz_11⟩ | ⟨rfl, hz_12⟩
    · refine lv_if_ne (tgt := 22) hx hb dX11_turns_16 (by decide) (fun hc => absurd (by decide) hc) (fun _ => ?_)
      refine lv_bipush (v := (-3)) hx hb dX11_turns_19 (by decide) ?_
      exact W.iret (v := (-3)) hx hb hr (fun t ht hW => ⟨⟨(-3), (ws_9, th1_4, f), rfl, ⟨hT, ⟨(rf_dr f), hR⟩⟩, by rw [ht]; exact hP, by rw [hAe]; exact hD⟩, hS.F ht⟩) hS.2.2 dX11_turns_21
    · refine lv_if_ne (tgt := 22) hx hb dX11_turns_16 (by decide) (fun _ => ?_) (fun hc => absurd hc (by decide))
      refine lv_aload_n hx hb dX11_turns_22 rfl (lv_at hl 0 rfl) ?_
      refine lv_iload_n hx hb dX11_turns_23 rfl (lv_at hl 1 rfl) ?_
      refine lv_iconst (v := 0) hx hb dX11_turns_24 (by decide) ?_
      refine lv_iload_n hx hb dX11_turns_25 rfl (lv_at hl 3 rfl) ?_
      refine ty_kv (wr := []) (wc := ([(rf_MO mo mw ma mf m0 m1 mu mv u0 u1 iz th1_4 mb mn mpt mbg mwr mwk mlf men), (rf_RW ct 0 mw 958 f)] ++ ws_9)) (va_runV (As := [.int p1, .int 0, .int p3]) (rest := []) ⟨hx, hb, hml, hown, hts⟩ (m_put_0 l D ct S ws_9 ph xx mo mw ma mf m0 m1 mu mv u0 u1 iz mb th1_4 mn mpt mbg mwr mwk mlf men f G (-1) p1 p3 _ hT h_mu h_mv h_u0 h_u1 hph hy1 hR hz_6 (Or.inl rfl)) (cm_V 3 hts kc_X11_put ki_RX11 kl_RX11_234 kv_X11_put kx_X11_put kd_X11_put ⟨Nat.le_of_ble_eq_true rfl, Nat.le_of_ble_eq_true rfl⟩) (ty_preE (wr := []) (wc := ([(rf_MO mo mw ma mf m0 m1 mu mv u0 u1 iz th1_4 mb mn mpt mbg mwr mwk mlf men), (rf_RW ct 0 mw 958 f)] ++ ws_9)) (ci := 11) (q0 := 0) hP hK hD hS hA hX rfl rfl) rfl rfl hl.1 rfl (lv_room (Nat.le_of_ble_eq_true rfl)) dX11_turns_26 ⟨Nat.le_of_ble_eq_true rfl, Nat.le_of_ble_eq_true rfl⟩) hP hD hS hA (fun u H locs hw_14 hP hD hS => ?_)
      obtain ⟨ws_15, f1_16⟩ := u
      obtain ⟨hT, hp_17⟩ := hw_14
      have hp_17 : rf_d (f 8) f f1_16 ∧ rf_R G p1.toInt f1_16 ∧ f1_16 = upd f (244 + 54 * p1.toInt.toNat + 0) p3 := hp_17
      obtain ⟨hd_18, hq_19⟩ := hp_17
      have hD_20 := rf_dt (rf_dr f) hd_18
      have hR_21 := hq_19.1
      have hP : va_P D vwCl ([(rf_MO mo mw ma mf m0 m1 mu mv u0 u1 iz th1_4 mb mn mpt mbg mwr mwk mlf men), (rf_RW ct 0 mw 958 f1_16)] ++ ws_15) H := hP
      have hD : va_D A ([(rf_MO mo mw ma mf m0 m1 mu mv u0 u1 iz th1_4 mb mn mpt mbg mwr mwk mlf men), (rf_RW ct 0 mw 958 f1_16)] ++ ws_15) := hD
      refine lv_aload_n hx hb dX11_turns_29 rfl (lv_at hl 0 rfl) ?_
      refine lv_iload_n hx hb dX11_turns_30 rfl (lv_at hl 1 rfl) ?_
      refine lv_iconst (v := 2) hx hb dX11_turns_31 (by decide) ?_
      refine ty_ki (wr := []) (wc := ([(rf_MO mo mw ma mf m0 m1 mu mv u0 u1 iz th1_4 mb mn mpt mbg mwr mwk mlf men), (rf_RW ct 0 mw 958 f1_16)] ++ ws_15)) (va_runV (As := [.int p1, .int 2]) (rest := []) ⟨hx, hb, hml, hown, hts⟩ (m_of_2 l D ct S ws_15 ph xx mo mw ma mf m0 m1 mu mv u0 u1 iz mb th1_4 mn mpt mbg mwr mwk mlf men f1_16 G p1.toInt p1 _ hT h_mu h_mv h_u0 h_u1 hph hy1 hR_21 hz_6) (cm_V 2 hts kc_X11_of ki_RX11 kl_RX11_209 kv_X11_of kx_X11_of kd_X11_of ⟨Nat.le_of_ble_eq_true rfl, Nat.le_of_ble_eq_true rfl⟩) (ty_preE (wr := []) (wc := ([(rf_MO mo mw ma mf m0 m1 mu mv u0 u1 iz th1_4 mb mn mpt mbg mwr mwk mlf men), (rf_RW ct 0 mw 958 f1_16)] ++ ws_15)) (ci := 11) (q0 := 0) hP hK hD hS hA hX rfl rfl) rfl rfl hl.1 rfl (lv_room (Nat.le_of_ble_eq_true rfl)) dX11_turns_32 ⟨Nat.le_of_ble_eq_true rfl, Nat.le_of_ble_eq_true rfl⟩) hP hD hS hA (fun r_23 u H locs hw_24 hP hD hS => ?_)
      obtain ⟨ws_25, rfl⟩ : ∃ z, z = u := ⟨_, rfl⟩
      obtain ⟨hT, rfl⟩ := hw_24
      have hP : va_P D vwCl ([(rf_MO mo mw ma mf m0 m1 mu mv u0 u1 iz th1_4 mb mn mpt mbg mwr mwk mlf men), (rf_RW ct 0 mw 958 f1_16)] ++ ws_25) H := hP
      have hD : va_D A ([(rf_MO mo mw ma mf m0 m1 mu mv u0 u1 iz th1_4 mb mn mpt mbg mwr mwk mlf men), (rf_RW ct 0 mw 958 f1_16)] ++ ws_25) := hD
      have hc9 := hz_6
      have ho9 : rf_on G f p1 := (rf_onr hR hc9 (by rcases hft with q | q <;> rw [hz_12, q.1] <;> simp))
      have e1 : rf_of f1_16 p1 1 = rf_of f p1 1 := by rw [hq_19.2]; exact rf_ne (by decide)
      have e2 : rf_of f1_16 p1 2 = rf_of f p1 2 := by rw [hq_19.2]; exact rf_ne (by decide)
      have hRf := rf_back9 hc9.1 hR_21 (Or.inr rfl) (rf_runok hc9.1 (by unfold rf_on; rw [e1, e2]; exact ho9))
      exact W.iret (v := (rf_of f1_16 p1 2)) hx hb hr (fun t ht hW => ⟨⟨(rf_of f1_16 p1 2), (ws_25, th1_4, f1_16), rfl, ⟨hT, ⟨hD_20, hRf⟩⟩, by rw [ht]; exact hP, by rw [hAe]; exact hD⟩, hS.F ht⟩) hS.2.2 dX11_turns_35
  · refine lv_if_eq (tgt := 10) hx hb dX11_turns_5 (by decide) (fun hc => absurd hc (by decide)) (fun _ => ?_)
    refine lv_iconst (v := 0) hx hb dX11_turns_8 (by decide) ?_
    exact W.iret (v := 0) hx hb hr (fun t ht hW => ⟨⟨0, (ws_3, th1_4, f), rfl, ⟨hT, ⟨(rf_dr f), hR⟩⟩, by rw [ht]; exact hP, by rw [hAe]; exact hD⟩, hS.F ht⟩) hS.2.2 dX11_turns_9
theorem dX11_pause_0 : decode cX11_pause 0 = .ok (.aload_n 0, 1) := by decide +kernel
theorem dX11_pause_1 : decode cX11_pause 1 = .ok (.iload_n 1, 1) := by decide +kernel
theorem dX11_pause_2 : decode cX11_pause 2 = .ok (.iconst 1, 1) := by decide +kernel
theorem dX11_pause_3 : decode cX11_pause 3 = .ok (.iconst 2, 1) := by decide +kernel
theorem dX11_pause_4 : decode cX11_pause 4 = .ok (.invokevirtual 353, 3) := by decide +kernel
theorem dX11_pause_7 : decode cX11_pause 7 = .ok (.ireturn, 1) := by decide +kernel
set_option maxRecDepth 100000 in
set_option maxHeartbeats 4000000 in
theorem m_X11_pause (l : Launch) (D : va_G) (ct : Nat → ClassId) (S : ty_S) (ws : va_W) (ph : va_W → Prop) (xx : Nat → Nat → Nat → Prop) (mo : Nat) (mw : Nat) (ma : Nat) (mf : Nat) (m0 : Nat) (m1 : Nat) (mu : Nat) (mv : Nat) (u0 : Nat) (u1 : Nat) (iz : Nat) (mb : Nat) (th : Int32) (mn : Int32) (mpt : Int32) (mbg : Int32) (mwr : Int32) (mwk : Int32) (mlf : Int32) (men : Int32) (f : Nat → Int32) (G : Nat → Int32) (p1 : Int32) (sz : Nat) (hT : ty_V ct S ph ws) (h_mu : S mu = some (.inr (1, 42))) (h_mv : S mv = some (.inr (1, 42))) (h_u0 : S u0 = some (.inr (1, 42))) (h_u1 : S u1 = some (.inr (1, 42))) (hph : ty_C ph xx) (hy1 : ty_y1 xx) (hR : rf_R G (-1) f) : Met l yX11_pause (ws_ yX11_pause cX11_pause 2 (some .int)) ({ frames := 3, cells := 0, slots := 0, locals := 69 } : Room) (va_Pc [.ref mo, .int p1] (cmP D ct sz ([(rf_MO mo mw ma mf m0 m1 mu mv u0 u1 iz th mb mn mpt mbg mwr mwk mlf men), (rf_RW ct 0 mw 958 f)] ++ ws))) (va_Qi (fun (r : Int32) (u : va_W × Int32 × (Nat → Int32)) => match u with | (u9, th1, f1) => ty_V ct S ph u9 ∧ rf_d (f 8) f f1 ∧ rf_R G (-1) f1) (cmB D ([(rf_MO mo mw ma mf m0 m1 mu mv u0 u1 iz th mb mn mpt mbg mwr mwk mlf men), (rf_RW ct 0 mw 958 f)] ++ ws) sz (fun (u : va_W × Int32 × (Nat → Int32)) => match u with | (u9, th1, f1) => ([(rf_MO mo mw ma mf m0 m1 mu mv u0 u1 iz th1 mb mn mpt mbg mwr mwk mlf men), (rf_RW ct 0 mw 958 f1)] ++ u9))) (va_A ([(rf_MO mo mw ma mf m0 m1 mu mv u0 u1 iz th mb mn mpt mbg mwr mwk mlf men), (rf_RW ct 0 mw 958 f)] ++ ws) sz)) 0 0 (va_A ([(rf_MO mo mw ma mf m0 m1 mu mv u0 u1 iz th mb mn mpt mbg mwr mwk mlf men), (rf_RW ct 0 mw 958 f)] ++ ws) sz) := by
  refine Met.ofW (cc := cX11_pause) (maxL := 2) (ret := (some .int)) (by decide) rfl ?_
  intro p e s m args below meth c s₁ B hml hv
  obtain ⟨rfl, hsz, hP, hK, hD0, hX⟩ := hv
  have hx := B.exec
  have hb := B.bytes
  have hr := B.returns
  have hts := ws_all (atoms_spec (ws := ws_ yX11_pause cX11_pause 2 (some .int)) B.pre)
  have hown : s.vm.findClass RX11 = some m.cls := findClass_of_methodNamed B.named
  have hlocks := B.notSynchronized
  subst hsz
  have hD := hD0.self (sz := s.heap.size)
  generalize hAe : va_A ([(rf_MO mo mw ma mf m0 m1 mu mv u0 u1 iz th mb mn mpt mbg mwr mwk mlf men), (rf_RW ct 0 mw 958 f)] ++ ws) s.heap.size = A at hD hX ⊢
  have hA : ∀ q : Nat, s.heap.size ≤ q → A q := fun q h => by rw [← hAe]; exact Or.inr h
  have hS : va_S A s.heap s.heap [] := va_S.rf
  have hl := lv_entry ([.ref mo, .int p1]) (n := 2) (Nat.le_of_ble_eq_true rfl)
  rw [lg_entry_eq]
  generalize (lg_sl ([.ref mo, .int p1]) ++ List.replicate (2 - (lg_sl ([.ref mo, .int p1])).length) Slot.unset).toArray = ls at hl ⊢
  have hl : lv_has ls 2 [(0, .ref mo), (1, .int p1)] := hl
  refine lv_aload_n hx hb dX11_pause_0 rfl (lv_at hl 0 rfl) ?_
  refine lv_iload_n hx hb dX11_pause_1 rfl (lv_at hl 1 rfl) ?_
  refine lv_iconst (v := 1) hx hb dX11_pause_2 (by decide) ?_
  refine lv_iconst (v := 2) hx hb dX11_pause_3 (by decide) ?_
  refine ty_ki (wr := []) (wc := ([(rf_MO mo mw ma mf m0 m1 mu mv u0 u1 iz th mb mn mpt mbg mwr mwk mlf men), (rf_RW ct 0 mw 958 f)] ++ ws)) (va_runV (As := [.int p1, .int 1, .int 2]) (rest := []) ⟨hx, hb, hml, hown, hts⟩ (m_X11_turns l D ct S ws ph xx mo mw ma mf m0 m1 mu mv u0 u1 iz mb th mn mpt mbg mwr mwk mlf men f G p1 (1 : Int32) (2 : Int32) _ hT h_mu h_mv h_u0 h_u1 hph hy1 hR (by decide)) (cm_V 3 hts kc_X11_turns ki_RX11 kl_RX11_353 kv_X11_turns kx_X11_turns kd_X11_turns ⟨Nat.le_of_ble_eq_true rfl, Nat.le_of_ble_eq_true rfl⟩) (ty_preE (wr := []) (wc := ([(rf_MO mo mw ma mf m0 m1 mu mv u0 u1 iz th mb mn mpt mbg mwr mwk mlf men), (rf_RW ct 0 mw 958 f)] ++ ws)) (ci := 11) (q0 := 0) hP hK hD hS hA hX rfl rfl) rfl rfl hl.1 rfl (lv_room (Nat.le_of_ble_eq_true rfl)) dX11_pause_4 ⟨Nat.le_of_ble_eq_true rfl, Nat.le_of_ble_eq_true rfl⟩) hP hD hS hA (fun r_1 u H locs hw_2 hP hD hS => ?_)
  obtain ⟨ws_3, th1_4, f1_5⟩ := u
  obtain ⟨hT, hp_6⟩ := hw_2
  have hp_6 : rf_d (f 8) f f1_5 ∧ rf_R G (-1) f1_5 := hp_6
  obtain ⟨hd_7, hq_8⟩ := hp_6
  have hD_9 := rf_dt (rf_dr f) hd_7
  have hR_10 := hq_8
  have hP : va_P D vwCl ([(rf_MO mo mw ma mf m0 m1 mu mv u0 u1 iz th1_4 mb mn mpt mbg mwr mwk mlf men), (rf_RW ct 0 mw 958 f1_5)] ++ ws_3) H := hP
  have hD : va_D A ([(rf_MO mo mw ma mf m0 m1 mu mv u0 u1 iz th1_4 mb mn mpt mbg mwr mwk mlf men), (rf_RW ct 0 mw 958 f1_5)] ++ ws_3) := hD
  exact W.iret (v := r_1) hx hb hr (fun t ht hW => ⟨⟨r_1, (ws_3, th1_4, f1_5), rfl, ⟨hT, ⟨hD_9, hR_10⟩⟩, by rw [ht]; exact hP, by rw [hAe]; exact hD⟩, hS.F ht⟩) hS.2.2 dX11_pause_7
theorem dX11_resume_0 : decode cX11_resume 0 = .ok (.aload_n 0, 1) := by decide +kernel
theorem dX11_resume_1 : decode cX11_resume 1 = .ok (.iload_n 1, 1) := by decide +kernel
theorem dX11_resume_2 : decode cX11_resume 2 = .ok (.iconst 2, 1) := by decide +kernel
theorem dX11_resume_3 : decode cX11_resume 3 = .ok (.iconst 1, 1) := by decide +kernel
theorem dX11_resume_4 : decode cX11_resume 4 = .ok (.invokevirtual 353, 3) := by decide +kernel
theorem dX11_resume_7 : decode cX11_resume 7 = .ok (.ireturn, 1) := by decide +kernel
set_option maxRecDepth 100000 in
set_option maxHeartbeats 4000000 in
theorem m_X11_resume (l : Launch) (D : va_G) (ct : Nat → ClassId) (S : ty_S) (ws : va_W) (ph : va_W → Prop) (xx : Nat → Nat → Nat → Prop) (mo : Nat) (mw : Nat) (ma : Nat) (mf : Nat) (m0 : Nat) (m1 : Nat) (mu : Nat) (mv : Nat) (u0 : Nat) (u1 : Nat) (iz : Nat) (mb : Nat) (th : Int32) (mn : Int32) (mpt : Int32) (mbg : Int32) (mwr : Int32) (mwk : Int32) (mlf : Int32) (men : Int32) (f : Nat → Int32) (G : Nat → Int32) (p1 : Int32) (sz : Nat) (hT : ty_V ct S ph ws) (h_mu : S mu = some (.inr (1, 42))) (h_mv : S mv = some (.inr (1, 42))) (h_u0 : S u0 = some (.inr (1, 42))) (h_u1 : S u1 = some (.inr (1, 42))) (hph : ty_C ph xx) (hy1 : ty_y1 xx) (hR : rf_R G (-1) f) : Met l yX11_resume (ws_ yX11_resume cX11_resume 2 (some .int)) ({ frames := 3, cells := 0, slots := 0, locals := 69 } : Room) (va_Pc [.ref mo, .int p1] (cmP D ct sz ([(rf_MO mo mw ma mf m0 m1 mu mv u0 u1 iz th mb mn mpt mbg mwr mwk mlf men), (rf_RW ct 0 mw 958 f)] ++ ws))) (va_Qi (fun (r : Int32) (u : va_W × Int32 × (Nat → Int32)) => match u with | (u9, th1, f1) => ty_V ct S ph u9 ∧ rf_d (f 8) f f1 ∧ rf_R G (-1) f1) (cmB D ([(rf_MO mo mw ma mf m0 m1 mu mv u0 u1 iz th mb mn mpt mbg mwr mwk mlf men), (rf_RW ct 0 mw 958 f)] ++ ws) sz (fun (u : va_W × Int32 × (Nat → Int32)) => match u with | (u9, th1, f1) => ([(rf_MO mo mw ma mf m0 m1 mu mv u0 u1 iz th1 mb mn mpt mbg mwr mwk mlf men), (rf_RW ct 0 mw 958 f1)] ++ u9))) (va_A ([(rf_MO mo mw ma mf m0 m1 mu mv u0 u1 iz th mb mn mpt mbg mwr mwk mlf men), (rf_RW ct 0 mw 958 f)] ++ ws) sz)) 0 0 (va_A ([(rf_MO mo mw ma mf m0 m1 mu mv u0 u1 iz th mb mn mpt mbg mwr mwk mlf men), (rf_RW ct 0 mw 958 f)] ++ ws) sz) := by
  refine Met.ofW (cc := cX11_resume) (maxL := 2) (ret := (some .int)) (by decide) rfl ?_
  intro p e s m args below meth c s₁ B hml hv
  obtain ⟨rfl, hsz, hP, hK, hD0, hX⟩ := hv
  have hx := B.exec
  have hb := B.bytes
  have hr := B.returns
  have hts := ws_all (atoms_spec (ws := ws_ yX11_resume cX11_resume 2 (some .int)) B.pre)
  have hown : s.vm.findClass RX11 = some m.cls := findClass_of_methodNamed B.named
  have hlocks := B.notSynchronized
  subst hsz
  have hD := hD0.self (sz := s.heap.size)
  generalize hAe : va_A ([(rf_MO mo mw ma mf m0 m1 mu mv u0 u1 iz th mb mn mpt mbg mwr mwk mlf men), (rf_RW ct 0 mw 958 f)] ++ ws) s.heap.size = A at hD hX ⊢
  have hA : ∀ q : Nat, s.heap.size ≤ q → A q := fun q h => by rw [← hAe]; exact Or.inr h
  have hS : va_S A s.heap s.heap [] := va_S.rf
  have hl := lv_entry ([.ref mo, .int p1]) (n := 2) (Nat.le_of_ble_eq_true rfl)
  rw [lg_entry_eq]
  generalize (lg_sl ([.ref mo, .int p1]) ++ List.replicate (2 - (lg_sl ([.ref mo, .int p1])).length) Slot.unset).toArray = ls at hl ⊢
  have hl : lv_has ls 2 [(0, .ref mo), (1, .int p1)] := hl
  refine lv_aload_n hx hb dX11_resume_0 rfl (lv_at hl 0 rfl) ?_
  refine lv_iload_n hx hb dX11_resume_1 rfl (lv_at hl 1 rfl) ?_
  refine lv_iconst (v := 2) hx hb dX11_resume_2 (by decide) ?_
  refine lv_iconst (v := 1) hx hb dX11_resume_3 (by decide) ?_
  refine ty_ki (wr := []) (wc := ([(rf_MO mo mw ma mf m0 m1 mu mv u0 u1 iz th mb mn mpt mbg mwr mwk mlf men), (rf_RW ct 0 mw 958 f)] ++ ws)) (va_runV (As := [.int p1, .int 2, .int 1]) (rest := []) ⟨hx, hb, hml, hown, hts⟩ (m_X11_turns l D ct S ws ph xx mo mw ma mf m0 m1 mu mv u0 u1 iz mb th mn mpt mbg mwr mwk mlf men f G p1 (2 : Int32) (1 : Int32) _ hT h_mu h_mv h_u0 h_u1 hph hy1 hR (by decide)) (cm_V 3 hts kc_X11_turns ki_RX11 kl_RX11_353 kv_X11_turns kx_X11_turns kd_X11_turns ⟨Nat.le_of_ble_eq_true rfl, Nat.le_of_ble_eq_true rfl⟩) (ty_preE (wr := []) (wc := ([(rf_MO mo mw ma mf m0 m1 mu mv u0 u1 iz th mb mn mpt mbg mwr mwk mlf men), (rf_RW ct 0 mw 958 f)] ++ ws)) (ci := 11) (q0 := 0) hP hK hD hS hA hX rfl rfl) rfl rfl hl.1 rfl (lv_room (Nat.le_of_ble_eq_true rfl)) dX11_resume_4 ⟨Nat.le_of_ble_eq_true rfl, Nat.le_of_ble_eq_true rfl⟩) hP hD hS hA (fun r_1 u H locs hw_2 hP hD hS => ?_)
  obtain ⟨ws_3, th1_4, f1_5⟩ := u
  obtain ⟨hT, hp_6⟩ := hw_2
  have hp_6 : rf_d (f 8) f f1_5 ∧ rf_R G (-1) f1_5 := hp_6
  obtain ⟨hd_7, hq_8⟩ := hp_6
  have hD_9 := rf_dt (rf_dr f) hd_7
  have hR_10 := hq_8
  have hP : va_P D vwCl ([(rf_MO mo mw ma mf m0 m1 mu mv u0 u1 iz th1_4 mb mn mpt mbg mwr mwk mlf men), (rf_RW ct 0 mw 958 f1_5)] ++ ws_3) H := hP
  have hD : va_D A ([(rf_MO mo mw ma mf m0 m1 mu mv u0 u1 iz th1_4 mb mn mpt mbg mwr mwk mlf men), (rf_RW ct 0 mw 958 f1_5)] ++ ws_3) := hD
  exact W.iret (v := r_1) hx hb hr (fun t ht hW => ⟨⟨r_1, (ws_3, th1_4, f1_5), rfl, ⟨hT, ⟨hD_9, hR_10⟩⟩, by rw [ht]; exact hP, by rw [hAe]; exact hD⟩, hS.F ht⟩) hS.2.2 dX11_resume_7
theorem dX11_stop_0 : decode cX11_stop 0 = .ok (.aload_n 0, 1) := by decide +kernel
theorem dX11_stop_1 : decode cX11_stop 1 = .ok (.iload_n 1, 1) := by decide +kernel
theorem dX11_stop_2 : decode cX11_stop 2 = .ok (.invokevirtual 344, 3) := by decide +kernel
theorem dX11_stop_5 : decode cX11_stop 5 = .ok (.ifCond .eq 5, 3) := by decide +kernel
theorem dX11_stop_8 : decode cX11_stop 8 = .ok (.iconst 0, 1) := by decide +kernel
theorem dX11_stop_9 : decode cX11_stop 9 = .ok (.ireturn, 1) := by decide +kernel
theorem dX11_stop_10 : decode cX11_stop 10 = .ok (.aload_n 0, 1) := by decide +kernel
theorem dX11_stop_11 : decode cX11_stop 11 = .ok (.iload_n 1, 1) := by decide +kernel
theorem dX11_stop_12 : decode cX11_stop 12 = .ok (.iconst 0, 1) := by decide +kernel
theorem dX11_stop_13 : decode cX11_stop 13 = .ok (.invokevirtual 209, 3) := by decide +kernel
theorem dX11_stop_16 : decode cX11_stop 16 = .ok (.istore_n 2, 1) := by decide +kernel
theorem dX11_stop_17 : decode cX11_stop 17 = .ok (.aload_n 0, 1) := by decide +kernel
theorem dX11_stop_18 : decode cX11_stop 18 = .ok (.iload_n 1, 1) := by decide +kernel
theorem dX11_stop_19 : decode cX11_stop 19 = .ok (.iconst 0, 1) := by decide +kernel
theorem dX11_stop_20 : decode cX11_stop 20 = .ok (.iconst 0, 1) := by decide +kernel
theorem dX11_stop_21 : decode cX11_stop 21 = .ok (.invokevirtual 234, 3) := by decide +kernel
theorem dX11_stop_24 : decode cX11_stop 24 = .ok (.aload_n 0, 1) := by decide +kernel
theorem dX11_stop_25 : decode cX11_stop 25 = .ok (.iload_n 1, 1) := by decide +kernel
theorem dX11_stop_26 : decode cX11_stop 26 = .ok (.iconst 2, 1) := by decide +kernel
theorem dX11_stop_27 : decode cX11_stop 27 = .ok (.iconst (-1), 1) := by decide +kernel
theorem dX11_stop_28 : decode cX11_stop 28 = .ok (.invokevirtual 234, 3) := by decide +kernel
theorem dX11_stop_31 : decode cX11_stop 31 = .ok (.aload_n 0, 1) := by decide +kernel
theorem dX11_stop_32 : decode cX11_stop 32 = .ok (.iload_n 1, 1) := by decide +kernel
theorem dX11_stop_33 : decode cX11_stop 33 = .ok (.iconst 3, 1) := by decide +kernel
theorem dX11_stop_34 : decode cX11_stop 34 = .ok (.iconst 0, 1) := by decide +kernel
theorem dX11_stop_35 : decode cX11_stop 35 = .ok (.invokevirtual 234, 3) := by decide +kernel
theorem dX11_stop_38 : decode cX11_stop 38 = .ok (.iload_n 2, 1) := by decide +kernel
theorem dX11_stop_39 : decode cX11_stop 39 = .ok (.ireturn, 1) := by decide +kernel
set_option maxRecDepth 100000 in
set_option maxHeartbeats 4000000 in
theorem m_X11_stop (l : Launch) (D : va_G) (ct : Nat → ClassId) (S : ty_S) (ws : va_W) (ph : va_W → Prop) (xx : Nat → Nat → Nat → Prop) (mo : Nat) (mw : Nat) (ma : Nat) (mf : Nat) (m0 : Nat) (m1 : Nat) (mu : Nat) (mv : Nat) (u0 : Nat) (u1 : Nat) (iz : Nat) (mb : Nat) (th : Int32) (mn : Int32) (mpt : Int32) (mbg : Int32) (mwr : Int32) (mwk : Int32) (mlf : Int32) (men : Int32) (f : Nat → Int32) (G : Nat → Int32) (p1 : Int32) (sz : Nat) (hT : ty_V ct S ph ws) (h_mu : S mu = some (.inr (1, 42))) (h_mv : S mv = some (.inr (1, 42))) (h_u0 : S u0 = some (.inr (1, 42))) (h_u1 : S u1 = some (.inr (1, 42))) (hph : ty_C ph xx) (hy1 : ty_y1 xx) (hR : rf_R G (-1) f) : Met l yX11_stop (ws_ yX11_stop cX11_stop 3 (some .int)) ({ frames := 2, cells := 0, slots := 0, locals := 46 } : Room) (va_Pc [.ref mo, .int p1] (cmP D ct sz ([(rf_MO mo mw ma mf m0 m1 mu mv u0 u1 iz th mb mn mpt mbg mwr mwk mlf men), (rf_RW ct 0 mw 958 f)] ++ ws))) (va_Qi (fun (r : Int32) (u : va_W × Int32 × (Nat → Int32)) => match u with | (u9, th1, f1) => ty_V ct S ph u9 ∧ rf_d (f 8) f f1 ∧ rf_R G (-1) f1) (cmB D ([(rf_MO mo mw ma mf m0 m1 mu mv u0 u1 iz th mb mn mpt mbg mwr mwk mlf men), (rf_RW ct 0 mw 958 f)] ++ ws) sz (fun (u : va_W × Int32 × (Nat → Int32)) => match u with | (u9, th1, f1) => ([(rf_MO mo mw ma mf m0 m1 mu mv u0 u1 iz th1 mb mn mpt mbg mwr mwk mlf men), (rf_RW ct 0 mw 958 f1)] ++ u9))) (va_A ([(rf_MO mo mw ma mf m0 m1 mu mv u0 u1 iz th mb mn mpt mbg mwr mwk mlf men), (rf_RW ct 0 mw 958 f)] ++ ws) sz)) 0 0 (va_A ([(rf_MO mo mw ma mf m0 m1 mu mv u0 u1 iz th mb mn mpt mbg mwr mwk mlf men), (rf_RW ct 0 mw 958 f)] ++ ws) sz) := by
  refine Met.ofW (cc := cX11_stop) (maxL := 3) (ret := (some .int)) (by decide) rfl ?_
  intro p e s m args below meth c s₁ B hml hv
  obtain ⟨rfl, hsz, hP, hK, hD0, hX⟩ := hv
  have hx := B.exec
  have hb := B.bytes
  have hr := B.returns
  have hts := ws_all (atoms_spec (ws := ws_ yX11_stop cX11_stop 3 (some .int)) B.pre)
  have hown : s.vm.findClass RX11 = some m.cls := findClass_of_methodNamed B.named
  have hlocks := B.notSynchronized
  subst hsz
  have hD := hD0.self (sz := s.heap.size)
  generalize hAe : va_A ([(rf_MO mo mw ma mf m0 m1 mu mv u0 u1 iz th mb mn mpt mbg mwr mwk mlf men), (rf_RW ct 0 mw 958 f)] ++ ws) s.heap.size = A at hD hX ⊢
  have hA : ∀ q : Nat, s.heap.size ≤ q → A q := fun q h => by rw [← hAe]; exact Or.inr h
  have hS : va_S A s.heap s.heap [] := va_S.rf
  have hl := lv_entry ([.ref mo, .int p1]) (n := 3) (Nat.le_of_ble_eq_true rfl)
  rw [lg_entry_eq]
  generalize (lg_sl ([.ref mo, .int p1]) ++ List.replicate (3 - (lg_sl ([.ref mo, .int p1])).length) Slot.unset).toArray = ls at hl ⊢
  have hl : lv_has ls 3 [(0, .ref mo), (1, .int p1)] := hl
  refine lv_aload_n hx hb dX11_stop_0 rfl (lv_at hl 0 rfl) ?_
  refine lv_iload_n hx hb dX11_stop_1 rfl (lv_at hl 1 rfl) ?_
  refine ty_ki (wr := []) (wc := ([(rf_MO mo mw ma mf m0 m1 mu mv u0 u1 iz th mb mn mpt mbg mwr mwk mlf men), (rf_RW ct 0 mw 958 f)] ++ ws)) (va_runV (As := [.int p1]) (rest := []) ⟨hx, hb, hml, hown, hts⟩ (m_X11_noChannel l D ct S ws ph xx mo mw ma mf m0 m1 mu mv u0 u1 iz mb th mn mpt mbg mwr mwk mlf men f G (-1) p1 _ hT h_mu h_mv h_u0 h_u1 hph hy1 hR) (cm_V 1 hts kc_X11_noChannel ki_RX11 kl_RX11_344 kv_X11_noChannel kx_X11_noChannel kd_X11_noChannel ⟨Nat.le_of_ble_eq_true rfl, Nat.le_of_ble_eq_true rfl⟩) (ty_preE (wr := []) (wc := ([(rf_MO mo mw ma mf m0 m1 mu mv u0 u1 iz th mb mn mpt mbg mwr mwk mlf men), (rf_RW ct 0 mw 958 f)] ++ ws)) (ci := 11) (q0 := 0) hP hK hD hS hA hX rfl rfl) rfl rfl hl.1 rfl (lv_room (Nat.le_of_ble_eq_true rfl)) dX11_stop_2 ⟨Nat.le_of_ble_eq_true rfl, Nat.le_of_ble_eq_true rfl⟩) hP hD hS hA (fun r_1 u H locs hw_2 hP hD hS => ?_)
  obtain ⟨ws_3, th1_4⟩ := u
  obtain ⟨hT, hp_5⟩ := hw_2
  have hp_5 : ((r_1 = 0 ∧ 0 ≤ p1.toInt ∧ p1.toInt < (G 9).toInt) ∨ r_1 = 1) := hp_5
  have hP : va_P D vwCl ([(rf_MO mo mw ma mf m0 m1 mu mv u0 u1 iz th1_4 mb mn mpt mbg mwr mwk mlf men), (rf_RW ct 0 mw 958 f)] ++ ws_3) H := hP
  have hD : va_D A ([(rf_MO mo mw ma mf m0 m1 mu mv u0 u1 iz th1_4 mb mn mpt mbg mwr mwk mlf men), (rf_RW ct 0 mw 958 f)] ++ ws_3) := hD
  rcases hp_5 with ⟨rfl, hz_6⟩ | rfl
  · refine lv_if_eq (tgt := 10) hx hb dX11_stop_5 (by decide) (fun _ => ?_) (fun hc => absurd (by decide) hc)
    refine lv_aload_n hx hb dX11_stop_10 rfl (lv_at hl 0 rfl) ?_
    refine lv_iload_n hx hb dX11_stop_11 rfl (lv_at hl 1 rfl) ?_
    refine lv_iconst (v := 0) hx hb dX11_stop_12 (by decide) ?_
    refine ty_ki (wr := []) (wc := ([(rf_MO mo mw ma mf m0 m1 mu mv u0 u1 iz th1_4 mb mn mpt mbg mwr mwk mlf men), (rf_RW ct 0 mw 958 f)] ++ ws_3)) (va_runV (As := [.int p1, .int 0]) (rest := []) ⟨hx, hb, hml, hown, hts⟩ (m_of_0 l D ct S ws_3 ph xx mo mw ma mf m0 m1 mu mv u0 u1 iz mb th1_4 mn mpt mbg mwr mwk mlf men f G (-1) p1 _ hT h_mu h_mv h_u0 h_u1 hph hy1 hR hz_6) (cm_V 2 hts kc_X11_of ki_RX11 kl_RX11_209 kv_X11_of kx_X11_of kd_X11_of ⟨Nat.le_of_ble_eq_true rfl, Nat.le_of_ble_eq_true rfl⟩) (ty_preE (wr := []) (wc := ([(rf_MO mo mw ma mf m0 m1 mu mv u0 u1 iz th1_4 mb mn mpt mbg mwr mwk mlf men), (rf_RW ct 0 mw 958 f)] ++ ws_3)) (ci := 11) (q0 := 0) hP hK hD hS hA hX rfl rfl) rfl rfl hl.1 rfl (lv_room (Nat.le_of_ble_eq_true rfl)) dX11_stop_13 ⟨Nat.le_of_ble_eq_true rfl, Nat.le_of_ble_eq_true rfl⟩) hP hD hS hA (fun r_7 u H locs hw_8 hP hD hS => ?_)
    obtain ⟨ws_9, rfl⟩ : ∃ z, z = u := ⟨_, rfl⟩
    obtain ⟨hT, rfl⟩ := hw_8
    have hP : va_P D vwCl ([(rf_MO mo mw ma mf m0 m1 mu mv u0 u1 iz th1_4 mb mn mpt mbg mwr mwk mlf men), (rf_RW ct 0 mw 958 f)] ++ ws_9) H := hP
    have hD : va_D A ([(rf_MO mo mw ma mf m0 m1 mu mv u0 u1 iz th1_4 mb mn mpt mbg mwr mwk mlf men), (rf_RW ct 0 mw 958 f)] ++ ws_9) := hD
    refine lv_istore_n (lv' := [(2, .int (rf_of f p1 0)), (0, .ref mo), (1, .int p1)]) hx hb dX11_stop_16 rfl hl (by decide) rfl (fun ls hl => ?_)
    refine lv_aload_n hx hb dX11_stop_17 rfl (lv_at hl 1 rfl) ?_
    refine lv_iload_n hx hb dX11_stop_18 rfl (lv_at hl 2 rfl) ?_
    refine lv_iconst (v := 0) hx hb dX11_stop_19 (by decide) ?_
    refine lv_iconst (v := 0) hx hb dX11_stop_20 (by decide) ?_
    refine ty_kv (wr := []) (wc := ([(rf_MO mo mw ma mf m0 m1 mu mv u0 u1 iz th1_4 mb mn mpt mbg mwr mwk mlf men), (rf_RW ct 0 mw 958 f)] ++ ws_9)) (va_runV (As := [.int p1, .int 0, .int 0]) (rest := []) ⟨hx, hb, hml, hown, hts⟩ (m_put_0 l D ct S ws_9 ph xx mo mw ma mf m0 m1 mu mv u0 u1 iz mb th1_4 mn mpt mbg mwr mwk mlf men f G (-1) p1 (0 : Int32) _ hT h_mu h_mv h_u0 h_u1 hph hy1 hR hz_6 (Or.inl rfl)) (cm_V 3 hts kc_X11_put ki_RX11 kl_RX11_234 kv_X11_put kx_X11_put kd_X11_put ⟨Nat.le_of_ble_eq_true rfl, Nat.le_of_ble_eq_true rfl⟩) (ty_preE (wr := []) (wc := ([(rf_MO mo mw ma mf m0 m1 mu mv u0 u1 iz th1_4 mb mn mpt mbg mwr mwk mlf men), (rf_RW ct 0 mw 958 f)] ++ ws_9)) (ci := 11) (q0 := 0) hP hK hD hS hA hX rfl rfl) rfl rfl hl.1 rfl (lv_room (Nat.le_of_ble_eq_true rfl)) dX11_stop_21 ⟨Nat.le_of_ble_eq_true rfl, Nat.le_of_ble_eq_true rfl⟩) hP hD hS hA (fun u H locs hw_11 hP hD hS => ?_)
    obtain ⟨ws_12, f1_13⟩ := u
    obtain ⟨hT, hp_14⟩ := hw_11
    have hp_14 : rf_d (f 8) f f1_13 ∧ rf_R G p1.toInt f1_13 ∧ f1_13 = upd f (244 + 54 * p1.toInt.toNat + 0) (0 : Int32) := hp_14
    obtain ⟨hd_15, hq_16⟩ := hp_14
    have hD_17 := rf_dt (rf_dr f) hd_15
    have hR_18 := hq_16.1
    have hP : va_P D vwCl ([(rf_MO mo mw ma mf m0 m1 mu mv u0 u1 iz th1_4 mb mn mpt mbg mwr mwk mlf men), (rf_RW ct 0 mw 958 f1_13)] ++ ws_12) H := hP
    have hD : va_D A ([(rf_MO mo mw ma mf m0 m1 mu mv u0 u1 iz th1_4 mb mn mpt mbg mwr mwk mlf men), (rf_RW ct 0 mw 958 f1_13)] ++ ws_12) := hD
    have e_20 : rf_of f1_13 p1 0 = 0 := by rw [hq_16.2]; exact rf_eq
    refine lv_aload_n hx hb dX11_stop_24 rfl (lv_at hl 1 rfl) ?_
    refine lv_iload_n hx hb dX11_stop_25 rfl (lv_at hl 2 rfl) ?_
    refine lv_iconst (v := 2) hx hb dX11_stop_26 (by decide) ?_
    refine lv_iconst (v := (-1)) hx hb dX11_stop_27 (by decide) ?_
    refine ty_kv (wr := []) (wc := ([(rf_MO mo mw ma mf m0 m1 mu mv u0 u1 iz th1_4 mb mn mpt mbg mwr mwk mlf men), (rf_RW ct 0 mw 958 f1_13)] ++ ws_12)) (va_runV (As := [.int p1, .int 2, .int (-1)]) (rest := []) ⟨hx, hb, hml, hown, hts⟩ (m_put_2 l D ct S ws_12 ph xx mo mw ma mf m0 m1 mu mv u0 u1 iz mb th1_4 mn mpt mbg mwr mwk mlf men f1_13 G p1.toInt p1 ((-1) : Int32) _ hT h_mu h_mv h_u0 h_u1 hph hy1 hR_18 hz_6 (Or.inr rfl) (fun _ => (show -1 ≤ (-1 : Int32).toInt ∧ (-1 : Int32).toInt ≤ 11 from by decide))) (cm_V 3 hts kc_X11_put ki_RX11 kl_RX11_234 kv_X11_put kx_X11_put kd_X11_put ⟨Nat.le_of_ble_eq_true rfl, Nat.le_of_ble_eq_true rfl⟩) (ty_preE (wr := []) (wc := ([(rf_MO mo mw ma mf m0 m1 mu mv u0 u1 iz th1_4 mb mn mpt mbg mwr mwk mlf men), (rf_RW ct 0 mw 958 f1_13)] ++ ws_12)) (ci := 11) (q0 := 0) hP hK hD hS hA hX rfl rfl) rfl rfl hl.1 rfl (lv_room (Nat.le_of_ble_eq_true rfl)) dX11_stop_28 ⟨Nat.le_of_ble_eq_true rfl, Nat.le_of_ble_eq_true rfl⟩) hP hD hS hA (fun u H locs hw_22 hP hD hS => ?_)
    obtain ⟨ws_23, f1_24⟩ := u
    obtain ⟨hT, hp_25⟩ := hw_22
    have hp_25 : rf_d (f1_13 8) f1_13 f1_24 ∧ rf_R G p1.toInt f1_24 ∧ f1_24 = upd f1_13 (244 + 54 * p1.toInt.toNat + 2) ((-1) : Int32) := hp_25
    obtain ⟨hd_26, hq_27⟩ := hp_25
    have hD_28 := rf_dt hD_17 hd_26
    have hR_29 := hq_27.1
    have hP : va_P D vwCl ([(rf_MO mo mw ma mf m0 m1 mu mv u0 u1 iz th1_4 mb mn mpt mbg mwr mwk mlf men), (rf_RW ct 0 mw 958 f1_24)] ++ ws_23) H := hP
    have hD : va_D A ([(rf_MO mo mw ma mf m0 m1 mu mv u0 u1 iz th1_4 mb mn mpt mbg mwr mwk mlf men), (rf_RW ct 0 mw 958 f1_24)] ++ ws_23) := hD
    have e_31 : rf_of f1_24 p1 0 = 0 := by rw [hq_27.2]; exact (rf_ne (by decide)).trans e_20
    refine lv_aload_n hx hb dX11_stop_31 rfl (lv_at hl 1 rfl) ?_
    refine lv_iload_n hx hb dX11_stop_32 rfl (lv_at hl 2 rfl) ?_
    refine lv_iconst (v := 3) hx hb dX11_stop_33 (by decide) ?_
    refine lv_iconst (v := 0) hx hb dX11_stop_34 (by decide) ?_
    refine ty_kv (wr := []) (wc := ([(rf_MO mo mw ma mf m0 m1 mu mv u0 u1 iz th1_4 mb mn mpt mbg mwr mwk mlf men), (rf_RW ct 0 mw 958 f1_24)] ++ ws_23)) (va_runV (As := [.int p1, .int 3, .int 0]) (rest := []) ⟨hx, hb, hml, hown, hts⟩ (m_put_3 l D ct S ws_23 ph xx mo mw ma mf m0 m1 mu mv u0 u1 iz mb th1_4 mn mpt mbg mwr mwk mlf men f1_24 G p1.toInt p1 (0 : Int32) _ hT h_mu h_mv h_u0 h_u1 hph hy1 hR_29 hz_6) (cm_V 3 hts kc_X11_put ki_RX11 kl_RX11_234 kv_X11_put kx_X11_put kd_X11_put ⟨Nat.le_of_ble_eq_true rfl, Nat.le_of_ble_eq_true rfl⟩) (ty_preE (wr := []) (wc := ([(rf_MO mo mw ma mf m0 m1 mu mv u0 u1 iz th1_4 mb mn mpt mbg mwr mwk mlf men), (rf_RW ct 0 mw 958 f1_24)] ++ ws_23)) (ci := 11) (q0 := 0) hP hK hD hS hA hX rfl rfl) rfl rfl hl.1 rfl (lv_room (Nat.le_of_ble_eq_true rfl)) dX11_stop_35 ⟨Nat.le_of_ble_eq_true rfl, Nat.le_of_ble_eq_true rfl⟩) hP hD hS hA (fun u H locs hw_33 hP hD hS => ?_)
    obtain ⟨ws_34, f1_35⟩ := u
    obtain ⟨hT, hp_36⟩ := hw_33
    have hp_36 : rf_d (f1_24 8) f1_24 f1_35 ∧ rf_R G p1.toInt f1_35 ∧ rf_sm f1_24 f1_35 ∧ f1_35 = upd f1_24 (244 + 54 * p1.toInt.toNat + 3) (0 : Int32) := hp_36
    obtain ⟨hd_37, hq_38⟩ := hp_36
    have hD_39 := rf_dt hD_28 hd_37
    have hR_40 := hq_38.1
    have hP : va_P D vwCl ([(rf_MO mo mw ma mf m0 m1 mu mv u0 u1 iz th1_4 mb mn mpt mbg mwr mwk mlf men), (rf_RW ct 0 mw 958 f1_35)] ++ ws_34) H := hP
    have hD : va_D A ([(rf_MO mo mw ma mf m0 m1 mu mv u0 u1 iz th1_4 mb mn mpt mbg mwr mwk mlf men), (rf_RW ct 0 mw 958 f1_35)] ++ ws_34) := hD
    have e_42 : rf_of f1_35 p1 0 = 0 := by rw [hq_38.2.2]; exact (rf_ne (by decide)).trans e_31
    refine lv_iload_n hx hb dX11_stop_38 rfl (lv_at hl 0 rfl) ?_
    have hR_43 := rf_back9 (hz_6).1 hR_40 (Or.inr rfl) (rf_runno (by rw [e_42]; decide) (by rw [e_42]; decide))
    exact W.iret (v := (rf_of f p1 0)) hx hb hr (fun t ht hW => ⟨⟨(rf_of f p1 0), (ws_34, th1_4, f1_35), rfl, ⟨hT, ⟨hD_39, hR_43⟩⟩, by rw [ht]; exact hP, by rw [hAe]; exact hD⟩, hS.F ht⟩) hS.2.2 dX11_stop_39
  · refine lv_if_eq (tgt := 10) hx hb dX11_stop_5 (by decide) (fun hc => absurd hc (by decide)) (fun _ => ?_)
    refine lv_iconst (v := 0) hx hb dX11_stop_8 (by decide) ?_
    exact W.iret (v := 0) hx hb hr (fun t ht hW => ⟨⟨0, (ws_3, th1_4, f), rfl, ⟨hT, ⟨(rf_dr f), hR⟩⟩, by rw [ht]; exact hP, by rw [hAe]; exact hD⟩, hS.F ht⟩) hS.2.2 dX11_stop_9
theorem dX11_skip_0 : decode cX11_skip 0 = .ok (.aload_n 0, 1) := by decide +kernel
theorem dX11_skip_1 : decode cX11_skip 1 = .ok (.iload_n 1, 1) := by decide +kernel
theorem dX11_skip_2 : decode cX11_skip 2 = .ok (.invokevirtual 344, 3) := by decide +kernel
theorem dX11_skip_5 : decode cX11_skip 5 = .ok (.ifCond .eq 5, 3) := by decide +kernel
theorem dX11_skip_8 : decode cX11_skip 8 = .ok (.iconst 0, 1) := by decide +kernel
theorem dX11_skip_9 : decode cX11_skip 9 = .ok (.ireturn, 1) := by decide +kernel
theorem dX11_skip_10 : decode cX11_skip 10 = .ok (.aload_n 0, 1) := by decide +kernel
theorem dX11_skip_11 : decode cX11_skip 11 = .ok (.iload_n 1, 1) := by decide +kernel
theorem dX11_skip_12 : decode cX11_skip 12 = .ok (.iconst 1, 1) := by decide +kernel
theorem dX11_skip_13 : decode cX11_skip 13 = .ok (.invokevirtual 350, 3) := by decide +kernel
theorem dX11_skip_16 : decode cX11_skip 16 = .ok (.ifCond .ne 6, 3) := by decide +kernel
theorem dX11_skip_19 : decode cX11_skip 19 = .ok (.bipush (-3), 2) := by decide +kernel
theorem dX11_skip_21 : decode cX11_skip 21 = .ok (.ireturn, 1) := by decide +kernel
theorem dX11_skip_22 : decode cX11_skip 22 = .ok (.aload_n 0, 1) := by decide +kernel
theorem dX11_skip_23 : decode cX11_skip 23 = .ok (.iload_n 1, 1) := by decide +kernel
theorem dX11_skip_24 : decode cX11_skip 24 = .ok (.aload_n 0, 1) := by decide +kernel
theorem dX11_skip_25 : decode cX11_skip 25 = .ok (.iload_n 1, 1) := by decide +kernel
theorem dX11_skip_26 : decode cX11_skip 26 = .ok (.iconst 2, 1) := by decide +kernel
theorem dX11_skip_27 : decode cX11_skip 27 = .ok (.invokevirtual 209, 3) := by decide +kernel
theorem dX11_skip_30 : decode cX11_skip 30 = .ok (.iconst 1, 1) := by decide +kernel
theorem dX11_skip_31 : decode cX11_skip 31 = .ok (.iadd, 1) := by decide +kernel
theorem dX11_skip_32 : decode cX11_skip 32 = .ok (.invokevirtual 291, 3) := by decide +kernel
theorem dX11_skip_35 : decode cX11_skip 35 = .ok (.aload_n 0, 1) := by decide +kernel
theorem dX11_skip_36 : decode cX11_skip 36 = .ok (.iload_n 1, 1) := by decide +kernel
theorem dX11_skip_37 : decode cX11_skip 37 = .ok (.iconst 2, 1) := by decide +kernel
theorem dX11_skip_38 : decode cX11_skip 38 = .ok (.invokevirtual 209, 3) := by decide +kernel
theorem dX11_skip_41 : decode cX11_skip 41 = .ok (.ireturn, 1) := by decide +kernel
set_option maxRecDepth 100000 in
set_option maxHeartbeats 4000000 in
theorem m_X11_skip (l : Launch) (D : va_G) (ct : Nat → ClassId) (S : ty_S) (ws : va_W) (ph : va_W → Prop) (xx : Nat → Nat → Nat → Prop) (mo : Nat) (mw : Nat) (ma : Nat) (mf : Nat) (m0 : Nat) (m1 : Nat) (mu : Nat) (mv : Nat) (u0 : Nat) (u1 : Nat) (iz : Nat) (mb : Nat) (th : Int32) (mn : Int32) (mpt : Int32) (mbg : Int32) (mwr : Int32) (mwk : Int32) (mlf : Int32) (men : Int32) (f : Nat → Int32) (G : Nat → Int32) (p1 : Int32) (sz : Nat) (hT : ty_V ct S ph ws) (h_mu : S mu = some (.inr (1, 42))) (h_mv : S mv = some (.inr (1, 42))) (h_u0 : S u0 = some (.inr (1, 42))) (h_u1 : S u1 = some (.inr (1, 42))) (hph : ty_C ph xx) (hy1 : ty_y1 xx) (hy11 : ty_y0 xx 11) (hR : rf_R G (-1) f) : Met l yX11_skip (ws_ yX11_skip cX11_skip 2 (some .int)) ({ frames := 5, cells := 0, slots := 0, locals := 118 } : Room) (va_Pc [.ref mo, .int p1] (cmP D ct sz ([(rf_MO mo mw ma mf m0 m1 mu mv u0 u1 iz th mb mn mpt mbg mwr mwk mlf men), (rf_RW ct 0 mw 958 f)] ++ ws))) (va_Qi (fun (r : Int32) (u : va_W × Int32 × (Nat → Int32)) => match u with | (u9, th1, f1) => ty_V ct S ph u9 ∧ rf_d (f 8) f f1 ∧ rf_R G (-1) f1) (cmB D ([(rf_MO mo mw ma mf m0 m1 mu mv u0 u1 iz th mb mn mpt mbg mwr mwk mlf men), (rf_RW ct 0 mw 958 f)] ++ ws) sz (fun (u : va_W × Int32 × (Nat → Int32)) => match u with | (u9, th1, f1) => ([(rf_MO mo mw ma mf m0 m1 mu mv u0 u1 iz th1 mb mn mpt mbg mwr mwk mlf men), (rf_RW ct 0 mw 958 f1)] ++ u9))) (va_A ([(rf_MO mo mw ma mf m0 m1 mu mv u0 u1 iz th mb mn mpt mbg mwr mwk mlf men), (rf_RW ct 0 mw 958 f)] ++ ws) sz)) 0 0 (va_A ([(rf_MO mo mw ma mf m0 m1 mu mv u0 u1 iz th mb mn mpt mbg mwr mwk mlf men), (rf_RW ct 0 mw 958 f)] ++ ws) sz) := by
  refine Met.ofW (cc := cX11_skip) (maxL := 2) (ret := (some .int)) (by decide) rfl ?_
  intro p e s m args below meth c s₁ B hml hv
  obtain ⟨rfl, hsz, hP, hK, hD0, hX⟩ := hv
  have hx := B.exec
  have hb := B.bytes
  have hr := B.returns
  have hts := ws_all (atoms_spec (ws := ws_ yX11_skip cX11_skip 2 (some .int)) B.pre)
  have hown : s.vm.findClass RX11 = some m.cls := findClass_of_methodNamed B.named
  have hlocks := B.notSynchronized
  subst hsz
  have hD := hD0.self (sz := s.heap.size)
  generalize hAe : va_A ([(rf_MO mo mw ma mf m0 m1 mu mv u0 u1 iz th mb mn mpt mbg mwr mwk mlf men), (rf_RW ct 0 mw 958 f)] ++ ws) s.heap.size = A at hD hX ⊢
  have hA : ∀ q : Nat, s.heap.size ≤ q → A q := fun q h => by rw [← hAe]; exact Or.inr h
  have hS : va_S A s.heap s.heap [] := va_S.rf
  have hl := lv_entry ([.ref mo, .int p1]) (n := 2) (Nat.le_of_ble_eq_true rfl)
  rw [lg_entry_eq]
  generalize (lg_sl ([.ref mo, .int p1]) ++ List.replicate (2 - (lg_sl ([.ref mo, .int p1])).length) Slot.unset).toArray = ls at hl ⊢
  have hl : lv_has ls 2 [(0, .ref mo), (1, .int p1)] := hl
  refine lv_aload_n hx hb dX11_skip_0 rfl (lv_at hl 0 rfl) ?_
  refine lv_iload_n hx hb dX11_skip_1 rfl (lv_at hl 1 rfl) ?_
  refine ty_ki (wr := []) (wc := ([(rf_MO mo mw ma mf m0 m1 mu mv u0 u1 iz th mb mn mpt mbg mwr mwk mlf men), (rf_RW ct 0 mw 958 f)] ++ ws)) (va_runV (As := [.int p1]) (rest := []) ⟨hx, hb, hml, hown, hts⟩ (m_X11_noChannel l D ct S ws ph xx mo mw ma mf m0 m1 mu mv u0 u1 iz mb th mn mpt mbg mwr mwk mlf men f G (-1) p1 _ hT h_mu h_mv h_u0 h_u1 hph hy1 hR) (cm_V 1 hts kc_X11_noChannel ki_RX11 kl_RX11_344 kv_X11_noChannel kx_X11_noChannel kd_X11_noChannel ⟨Nat.le_of_ble_eq_true rfl, Nat.le_of_ble_eq_true rfl⟩) (ty_preE (wr := []) (wc := ([(rf_MO mo mw ma mf m0 m1 mu mv u0 u1 iz th mb mn mpt mbg mwr mwk mlf men), (rf_RW ct 0 mw 958 f)] ++ ws)) (ci := 11) (q0 := 0) hP hK hD hS hA hX rfl rfl) rfl rfl hl.1 rfl (lv_room (Nat.le_of_ble_eq_true rfl)) dX11_skip_2 ⟨Nat.le_of_ble_eq_true rfl, Nat.le_of_ble_eq_true rfl⟩) hP hD hS hA (fun r_1 u H locs hw_2 hP hD hS => ?_)
  obtain ⟨ws_3, th1_4⟩ := u
  obtain ⟨hT, hp_5⟩ := hw_2
  have hp_5 : ((r_1 = 0 ∧ 0 ≤ p1.toInt ∧ p1.toInt < (G 9).toInt) ∨ r_1 = 1) := hp_5
  have hP : va_P D vwCl ([(rf_MO mo mw ma mf m0 m1 mu mv u0 u1 iz th1_4 mb mn mpt mbg mwr mwk mlf men), (rf_RW ct 0 mw 958 f)] ++ ws_3) H := hP
  have hD : va_D A ([(rf_MO mo mw ma mf m0 m1 mu mv u0 u1 iz th1_4 mb mn mpt mbg mwr mwk mlf men), (rf_RW ct 0 mw 958 f)] ++ ws_3) := hD
  rcases hp_5 with ⟨rfl, hz_6⟩ | rfl
  · refine lv_if_eq (tgt := 10) hx hb dX11_skip_5 (by decide) (fun _ => ?_) (fun hc => absurd (by decide) hc)
    refine lv_aload_n hx hb dX11_skip_10 rfl (lv_at hl 0 rfl) ?_
    refine lv_iload_n hx hb dX11_skip_11 rfl (lv_at hl 1 rfl) ?_
    refine lv_iconst (v := 1) hx hb dX11_skip_12 (by decide) ?_
    refine ty_ki (wr := []) (wc := ([(rf_MO mo mw ma mf m0 m1 mu mv u0 u1 iz th1_4 mb mn mpt mbg mwr mwk mlf men), (rf_RW ct 0 mw 958 f)] ++ ws_3)) (va_runV (As := [.int p1, .int 1]) (rest := []) ⟨hx, hb, hml, hown, hts⟩ (m_X11_isIn l D ct S ws_3 ph xx mo mw ma mf m0 m1 mu mv u0 u1 iz mb th1_4 mn mpt mbg mwr mwk mlf men f G (-1) p1 (1 : Int32) _ hT h_mu h_mv h_u0 h_u1 hph hy1 hR hz_6) (cm_V 2 hts kc_X11_isIn ki_RX11 kl_RX11_350 kv_X11_isIn kx_X11_isIn kd_X11_isIn ⟨Nat.le_of_ble_eq_true rfl, Nat.le_of_ble_eq_true rfl⟩) (ty_preE (wr := []) (wc := ([(rf_MO mo mw ma mf m0 m1 mu mv u0 u1 iz th1_4 mb mn mpt mbg mwr mwk mlf men), (rf_RW ct 0 mw 958 f)] ++ ws_3)) (ci := 11) (q0 := 0) hP hK hD hS hA hX rfl rfl) rfl rfl hl.1 rfl (lv_room (Nat.le_of_ble_eq_true rfl)) dX11_skip_13 ⟨Nat.le_of_ble_eq_true rfl, Nat.le_of_ble_eq_true rfl⟩) hP hD hS hA (fun r_7 u H locs hw_8 hP hD hS => ?_)
    obtain ⟨ws_9, rfl⟩ : ∃ z, z = u := ⟨_, rfl⟩
    obtain ⟨hT, hp_10⟩ := hw_8
    have hp_10 : ((r_7 = 0 ∧ ¬ rf_of f p1 0 = (1 : Int32)) ∨ (r_7 = 1 ∧ rf_of f p1 0 = (1 : Int32))) := hp_10
    have hP : va_P D vwCl ([(rf_MO mo mw ma mf m0 m1 mu mv u0 u1 iz th1_4 mb mn mpt mbg mwr mwk mlf men), (rf_RW ct 0 mw 958 f)] ++ ws_9) H := hP
    have hD : va_D A ([(rf_MO mo mw ma mf m0 m1 mu mv u0 u1 iz th1_4 mb mn mpt mbg mwr mwk mlf men), (rf_RW ct 0 mw 958 f)] ++ ws_9) := hD
    rcases hp_10 with ⟨rfl, hz_11⟩ | ⟨rfl, hz_12⟩
    · refine lv_if_ne (tgt := 22) hx hb dX11_skip_16 (by decide) (fun hc => absurd (by decide) hc) (fun _ => ?_)
      refine lv_bipush (v := (-3)) hx hb dX11_skip_19 (by decide) ?_
      exact W.iret (v := (-3)) hx hb hr (fun t ht hW => ⟨⟨(-3), (ws_9, th1_4, f), rfl, ⟨hT, ⟨(rf_dr f), hR⟩⟩, by rw [ht]; exact hP, by rw [hAe]; exact hD⟩, hS.F ht⟩) hS.2.2 dX11_skip_21
    · refine lv_if_ne (tgt := 22) hx hb dX11_skip_16 (by decide) (fun _ => ?_) (fun hc => absurd hc (by decide))
      refine lv_aload_n hx hb dX11_skip_22 rfl (lv_at hl 0 rfl) ?_
      refine lv_iload_n hx hb dX11_skip_23 rfl (lv_at hl 1 rfl) ?_
      refine lv_aload_n hx hb dX11_skip_24 rfl (lv_at hl 0 rfl) ?_
      refine lv_iload_n hx hb dX11_skip_25 rfl (lv_at hl 1 rfl) ?_
      refine lv_iconst (v := 2) hx hb dX11_skip_26 (by decide) ?_
      refine ty_ki (wr := []) (wc := ([(rf_MO mo mw ma mf m0 m1 mu mv u0 u1 iz th1_4 mb mn mpt mbg mwr mwk mlf men), (rf_RW ct 0 mw 958 f)] ++ ws_9)) (va_runV (As := [.int p1, .int 2]) (rest := [.int p1, .ref mo]) ⟨hx, hb, hml, hown, hts⟩ (m_of_2 l D ct S ws_9 ph xx mo mw ma mf m0 m1 mu mv u0 u1 iz mb th1_4 mn mpt mbg mwr mwk mlf men f G (-1) p1 _ hT h_mu h_mv h_u0 h_u1 hph hy1 hR hz_6) (cm_V 2 hts kc_X11_of ki_RX11 kl_RX11_209 kv_X11_of kx_X11_of kd_X11_of ⟨Nat.le_of_ble_eq_true rfl, Nat.le_of_ble_eq_true rfl⟩) (ty_preE (wr := []) (wc := ([(rf_MO mo mw ma mf m0 m1 mu mv u0 u1 iz th1_4 mb mn mpt mbg mwr mwk mlf men), (rf_RW ct 0 mw 958 f)] ++ ws_9)) (ci := 11) (q0 := 0) hP hK hD hS hA hX rfl rfl) rfl rfl hl.1 rfl (lv_room (Nat.le_of_ble_eq_true rfl)) dX11_skip_27 ⟨Nat.le_of_ble_eq_true rfl, Nat.le_of_ble_eq_true rfl⟩) hP hD hS hA (fun r_13 u H locs hw_14 hP hD hS => ?_)
      obtain ⟨ws_15, rfl⟩ : ∃ z, z = u := ⟨_, rfl⟩
      obtain ⟨hT, rfl⟩ := hw_14
      have hP : va_P D vwCl ([(rf_MO mo mw ma mf m0 m1 mu mv u0 u1 iz th1_4 mb mn mpt mbg mwr mwk mlf men), (rf_RW ct 0 mw 958 f)] ++ ws_15) H := hP
      have hD : va_D A ([(rf_MO mo mw ma mf m0 m1 mu mv u0 u1 iz th1_4 mb mn mpt mbg mwr mwk mlf men), (rf_RW ct 0 mw 958 f)] ++ ws_15) := hD
      refine lv_iconst (v := 1) hx hb dX11_skip_30 (by decide) ?_
      refine lv_iadd hx hb dX11_skip_31 ?_
      refine ty_kv (wr := []) (wc := ([(rf_MO mo mw ma mf m0 m1 mu mv u0 u1 iz th1_4 mb mn mpt mbg mwr mwk mlf men), (rf_RW ct 0 mw 958 f)] ++ ws_15)) (va_runV (As := [.int p1, .int ((rf_of f p1 2) + 1)]) (rest := []) ⟨hx, hb, hml, hown, hts⟩ (m_comes l D ct S ws_15 ph xx mo mw ma mf m0 m1 mu mv u0 u1 iz mb th1_4 mn mpt mbg mwr mwk mlf men f G (-1) p1 ((rf_of f p1 2) + 1) _ hT h_mu h_mv h_u0 h_u1 hph hy1 hy11 hR hz_6 (Or.inl rfl) (rf_onr hR hz_6 (Or.inl hz_12)).1 (rf_on1 hR (rf_onr hR hz_6 (Or.inl hz_12)))) (cm_V 2 hts kc_X11_comes ki_RX11 kl_RX11_291 kv_X11_comes kx_X11_comes kd_X11_comes ⟨Nat.le_of_ble_eq_true rfl, Nat.le_of_ble_eq_true rfl⟩) (ty_preE (wr := []) (wc := ([(rf_MO mo mw ma mf m0 m1 mu mv u0 u1 iz th1_4 mb mn mpt mbg mwr mwk mlf men), (rf_RW ct 0 mw 958 f)] ++ ws_15)) (ci := 11) (q0 := 0) hP hK hD hS hA hX rfl rfl) rfl rfl hl.1 rfl (lv_room (Nat.le_of_ble_eq_true rfl)) dX11_skip_32 ⟨Nat.le_of_ble_eq_true rfl, Nat.le_of_ble_eq_true rfl⟩) hP hD hS hA (fun u H locs hw_17 hP hD hS => ?_)
      obtain ⟨ws_18, f1_19⟩ := u
      obtain ⟨hT, hp_20⟩ := hw_17
      have hp_20 : rf_d (f 8) f f1_19 ∧ rf_R G (-1) f1_19 := hp_20
      obtain ⟨hd_21, hq_22⟩ := hp_20
      have hD_23 := rf_dt (rf_dr f) hd_21
      have hR_24 := hq_22
      have hP : va_P D vwCl ([(rf_MO mo mw ma mf m0 m1 mu mv u0 u1 iz th1_4 mb mn mpt mbg mwr mwk mlf men), (rf_RW ct 0 mw 958 f1_19)] ++ ws_18) H := hP
      have hD : va_D A ([(rf_MO mo mw ma mf m0 m1 mu mv u0 u1 iz th1_4 mb mn mpt mbg mwr mwk mlf men), (rf_RW ct 0 mw 958 f1_19)] ++ ws_18) := hD
      refine lv_aload_n hx hb dX11_skip_35 rfl (lv_at hl 0 rfl) ?_
      refine lv_iload_n hx hb dX11_skip_36 rfl (lv_at hl 1 rfl) ?_
      refine lv_iconst (v := 2) hx hb dX11_skip_37 (by decide) ?_
      refine ty_ki (wr := []) (wc := ([(rf_MO mo mw ma mf m0 m1 mu mv u0 u1 iz th1_4 mb mn mpt mbg mwr mwk mlf men), (rf_RW ct 0 mw 958 f1_19)] ++ ws_18)) (va_runV (As := [.int p1, .int 2]) (rest := []) ⟨hx, hb, hml, hown, hts⟩ (m_of_2 l D ct S ws_18 ph xx mo mw ma mf m0 m1 mu mv u0 u1 iz mb th1_4 mn mpt mbg mwr mwk mlf men f1_19 G (-1) p1 _ hT h_mu h_mv h_u0 h_u1 hph hy1 hR_24 hz_6) (cm_V 2 hts kc_X11_of ki_RX11 kl_RX11_209 kv_X11_of kx_X11_of kd_X11_of ⟨Nat.le_of_ble_eq_true rfl, Nat.le_of_ble_eq_true rfl⟩) (ty_preE (wr := []) (wc := ([(rf_MO mo mw ma mf m0 m1 mu mv u0 u1 iz th1_4 mb mn mpt mbg mwr mwk mlf men), (rf_RW ct 0 mw 958 f1_19)] ++ ws_18)) (ci := 11) (q0 := 0) hP hK hD hS hA hX rfl rfl) rfl rfl hl.1 rfl (lv_room (Nat.le_of_ble_eq_true rfl)) dX11_skip_38 ⟨Nat.le_of_ble_eq_true rfl, Nat.le_of_ble_eq_true rfl⟩) hP hD hS hA (fun r_26 u H locs hw_27 hP hD hS => ?_)
      obtain ⟨ws_28, rfl⟩ : ∃ z, z = u := ⟨_, rfl⟩
      obtain ⟨hT, rfl⟩ := hw_27
      have hP : va_P D vwCl ([(rf_MO mo mw ma mf m0 m1 mu mv u0 u1 iz th1_4 mb mn mpt mbg mwr mwk mlf men), (rf_RW ct 0 mw 958 f1_19)] ++ ws_28) H := hP
      have hD : va_D A ([(rf_MO mo mw ma mf m0 m1 mu mv u0 u1 iz th1_4 mb mn mpt mbg mwr mwk mlf men), (rf_RW ct 0 mw 958 f1_19)] ++ ws_28) := hD
      exact W.iret (v := (rf_of f1_19 p1 2)) hx hb hr (fun t ht hW => ⟨⟨(rf_of f1_19 p1 2), (ws_28, th1_4, f1_19), rfl, ⟨hT, ⟨hD_23, hR_24⟩⟩, by rw [ht]; exact hP, by rw [hAe]; exact hD⟩, hS.F ht⟩) hS.2.2 dX11_skip_41
  · refine lv_if_eq (tgt := 10) hx hb dX11_skip_5 (by decide) (fun hc => absurd hc (by decide)) (fun _ => ?_)
    refine lv_iconst (v := 0) hx hb dX11_skip_8 (by decide) ?_
    exact W.iret (v := 0) hx hb hr (fun t ht hW => ⟨⟨0, (ws_3, th1_4, f), rfl, ⟨hT, ⟨(rf_dr f), hR⟩⟩, by rw [ht]; exact hP, by rw [hAe]; exact hD⟩, hS.F ht⟩) hS.2.2 dX11_skip_9
theorem dX11_enqueue_0 : decode cX11_enqueue 0 = .ok (.aload_n 0, 1) := by decide +kernel
theorem dX11_enqueue_1 : decode cX11_enqueue 1 = .ok (.iload_n 1, 1) := by decide +kernel
theorem dX11_enqueue_2 : decode cX11_enqueue 2 = .ok (.iload_n 2, 1) := by decide +kernel
theorem dX11_enqueue_3 : decode cX11_enqueue 3 = .ok (.invokevirtual 347, 3) := by decide +kernel
theorem dX11_enqueue_6 : decode cX11_enqueue 6 = .ok (.ifCond .eq 5, 3) := by decide +kernel
theorem dX11_enqueue_9 : decode cX11_enqueue 9 = .ok (.iconst 0, 1) := by decide +kernel
theorem dX11_enqueue_10 : decode cX11_enqueue 10 = .ok (.ireturn, 1) := by decide +kernel
theorem dX11_enqueue_11 : decode cX11_enqueue 11 = .ok (.aload_n 0, 1) := by decide +kernel
theorem dX11_enqueue_12 : decode cX11_enqueue 12 = .ok (.iload_n 1, 1) := by decide +kernel
theorem dX11_enqueue_13 : decode cX11_enqueue 13 = .ok (.bipush 39, 2) := by decide +kernel
theorem dX11_enqueue_15 : decode cX11_enqueue 15 = .ok (.invokevirtual 209, 3) := by decide +kernel
theorem dX11_enqueue_18 : decode cX11_enqueue 18 = .ok (.iconst 4, 1) := by decide +kernel
theorem dX11_enqueue_19 : decode cX11_enqueue 19 = .ok (.if_icmp .ne 6, 3) := by decide +kernel
theorem dX11_enqueue_22 : decode cX11_enqueue 22 = .ok (.bipush (-2), 2) := by decide +kernel
theorem dX11_enqueue_24 : decode cX11_enqueue 24 = .ok (.ireturn, 1) := by decide +kernel
theorem dX11_enqueue_25 : decode cX11_enqueue 25 = .ok (.aload_n 0, 1) := by decide +kernel
theorem dX11_enqueue_26 : decode cX11_enqueue 26 = .ok (.iload_n 1, 1) := by decide +kernel
theorem dX11_enqueue_27 : decode cX11_enqueue 27 = .ok (.bipush 40, 2) := by decide +kernel
theorem dX11_enqueue_29 : decode cX11_enqueue 29 = .ok (.aload_n 0, 1) := by decide +kernel
theorem dX11_enqueue_30 : decode cX11_enqueue 30 = .ok (.iload_n 1, 1) := by decide +kernel
theorem dX11_enqueue_31 : decode cX11_enqueue 31 = .ok (.bipush 39, 2) := by decide +kernel
theorem dX11_enqueue_33 : decode cX11_enqueue 33 = .ok (.invokevirtual 209, 3) := by decide +kernel
theorem dX11_enqueue_36 : decode cX11_enqueue 36 = .ok (.iadd, 1) := by decide +kernel
theorem dX11_enqueue_37 : decode cX11_enqueue 37 = .ok (.iload_n 2, 1) := by decide +kernel
theorem dX11_enqueue_38 : decode cX11_enqueue 38 = .ok (.invokevirtual 234, 3) := by decide +kernel
theorem dX11_enqueue_41 : decode cX11_enqueue 41 = .ok (.aload_n 0, 1) := by decide +kernel
theorem dX11_enqueue_42 : decode cX11_enqueue 42 = .ok (.iload_n 1, 1) := by decide +kernel
theorem dX11_enqueue_43 : decode cX11_enqueue 43 = .ok (.bipush 39, 2) := by decide +kernel
theorem dX11_enqueue_45 : decode cX11_enqueue 45 = .ok (.aload_n 0, 1) := by decide +kernel
theorem dX11_enqueue_46 : decode cX11_enqueue 46 = .ok (.iload_n 1, 1) := by decide +kernel
theorem dX11_enqueue_47 : decode cX11_enqueue 47 = .ok (.bipush 39, 2) := by decide +kernel
theorem dX11_enqueue_49 : decode cX11_enqueue 49 = .ok (.invokevirtual 209, 3) := by decide +kernel
theorem dX11_enqueue_52 : decode cX11_enqueue 52 = .ok (.iconst 1, 1) := by decide +kernel
theorem dX11_enqueue_53 : decode cX11_enqueue 53 = .ok (.iadd, 1) := by decide +kernel
theorem dX11_enqueue_54 : decode cX11_enqueue 54 = .ok (.invokevirtual 234, 3) := by decide +kernel
theorem dX11_enqueue_57 : decode cX11_enqueue 57 = .ok (.aload_n 0, 1) := by decide +kernel
theorem dX11_enqueue_58 : decode cX11_enqueue 58 = .ok (.iload_n 1, 1) := by decide +kernel
theorem dX11_enqueue_59 : decode cX11_enqueue 59 = .ok (.bipush 39, 2) := by decide +kernel
theorem dX11_enqueue_61 : decode cX11_enqueue 61 = .ok (.invokevirtual 209, 3) := by decide +kernel
theorem dX11_enqueue_64 : decode cX11_enqueue 64 = .ok (.ireturn, 1) := by decide +kernel
set_option maxRecDepth 100000 in
set_option maxHeartbeats 4000000 in
theorem m_X11_enqueue (l : Launch) (D : va_G) (ct : Nat → ClassId) (S : ty_S) (ws : va_W) (ph : va_W → Prop) (xx : Nat → Nat → Nat → Prop) (mo : Nat) (mw : Nat) (ma : Nat) (mf : Nat) (m0 : Nat) (m1 : Nat) (mu : Nat) (mv : Nat) (u0 : Nat) (u1 : Nat) (iz : Nat) (mb : Nat) (th : Int32) (mn : Int32) (mpt : Int32) (mbg : Int32) (mwr : Int32) (mwk : Int32) (mlf : Int32) (men : Int32) (f : Nat → Int32) (G : Nat → Int32) (cx : Int) (p1 : Int32) (p2 : Int32) (sz : Nat) (hT : ty_V ct S ph ws) (h_mu : S mu = some (.inr (1, 42))) (h_mv : S mv = some (.inr (1, 42))) (h_u0 : S u0 = some (.inr (1, 42))) (h_u1 : S u1 = some (.inr (1, 42))) (hph : ty_C ph xx) (hy1 : ty_y1 xx) (hR : rf_R G cx f) : Met l yX11_enqueue (ws_ yX11_enqueue cX11_enqueue 3 (some .int)) ({ frames := 3, cells := 0, slots := 0, locals := 68 } : Room) (va_Pc [.ref mo, .int p1, .int p2] (cmP D ct sz ([(rf_MO mo mw ma mf m0 m1 mu mv u0 u1 iz th mb mn mpt mbg mwr mwk mlf men), (rf_RW ct 0 mw 958 f)] ++ ws))) (va_Qi (fun (r : Int32) (u : va_W × Int32 × (Nat → Int32)) => match u with | (u9, th1, f1) => ty_V ct S ph u9 ∧ rf_d (f 8) f f1 ∧ rf_R G cx f1 ∧ rf_sm f f1) (cmB D ([(rf_MO mo mw ma mf m0 m1 mu mv u0 u1 iz th mb mn mpt mbg mwr mwk mlf men), (rf_RW ct 0 mw 958 f)] ++ ws) sz (fun (u : va_W × Int32 × (Nat → Int32)) => match u with | (u9, th1, f1) => ([(rf_MO mo mw ma mf m0 m1 mu mv u0 u1 iz th1 mb mn mpt mbg mwr mwk mlf men), (rf_RW ct 0 mw 958 f1)] ++ u9))) (va_A ([(rf_MO mo mw ma mf m0 m1 mu mv u0 u1 iz th mb mn mpt mbg mwr mwk mlf men), (rf_RW ct 0 mw 958 f)] ++ ws) sz)) 0 0 (va_A ([(rf_MO mo mw ma mf m0 m1 mu mv u0 u1 iz th mb mn mpt mbg mwr mwk mlf men), (rf_RW ct 0 mw 958 f)] ++ ws) sz) := by
  refine Met.ofW (cc := cX11_enqueue) (maxL := 3) (ret := (some .int)) (by decide) rfl ?_
  intro p e s m args below meth c s₁ B hml hv
  obtain ⟨rfl, hsz, hP, hK, hD0, hX⟩ := hv
  have hx := B.exec
  have hb := B.bytes
  have hr := B.returns
  have hts := ws_all (atoms_spec (ws := ws_ yX11_enqueue cX11_enqueue 3 (some .int)) B.pre)
  have hown : s.vm.findClass RX11 = some m.cls := findClass_of_methodNamed B.named
  have hlocks := B.notSynchronized
  subst hsz
  have hD := hD0.self (sz := s.heap.size)
  generalize hAe : va_A ([(rf_MO mo mw ma mf m0 m1 mu mv u0 u1 iz th mb mn mpt mbg mwr mwk mlf men), (rf_RW ct 0 mw 958 f)] ++ ws) s.heap.size = A at hD hX ⊢
  have hA : ∀ q : Nat, s.heap.size ≤ q → A q := fun q h => by rw [← hAe]; exact Or.inr h
  have hS : va_S A s.heap s.heap [] := va_S.rf
  have hl := lv_entry ([.ref mo, .int p1, .int p2]) (n := 3) (Nat.le_of_ble_eq_true rfl)
  rw [lg_entry_eq]
  generalize (lg_sl ([.ref mo, .int p1, .int p2]) ++ List.replicate (3 - (lg_sl ([.ref mo, .int p1, .int p2])).length) Slot.unset).toArray = ls at hl ⊢
  have hl : lv_has ls 3 [(0, .ref mo), (1, .int p1), (2, .int p2)] := hl
  refine lv_aload_n hx hb dX11_enqueue_0 rfl (lv_at hl 0 rfl) ?_
  refine lv_iload_n hx hb dX11_enqueue_1 rfl (lv_at hl 1 rfl) ?_
  refine lv_iload_n hx hb dX11_enqueue_2 rfl (lv_at hl 2 rfl) ?_
  refine ty_ki (wr := []) (wc := ([(rf_MO mo mw ma mf m0 m1 mu mv u0 u1 iz th mb mn mpt mbg mwr mwk mlf men), (rf_RW ct 0 mw 958 f)] ++ ws)) (va_runV (As := [.int p1, .int p2]) (rest := []) ⟨hx, hb, hml, hown, hts⟩ (m_X11_noProgram l D ct S ws ph xx mo mw ma mf m0 m1 mu mv u0 u1 iz mb th mn mpt mbg mwr mwk mlf men f G cx p1 p2 _ hT h_mu h_mv h_u0 h_u1 hph hy1 hR) (cm_V 2 hts kc_X11_noProgram ki_RX11 kl_RX11_347 kv_X11_noProgram kx_X11_noProgram kd_X11_noProgram ⟨Nat.le_of_ble_eq_true rfl, Nat.le_of_ble_eq_true rfl⟩) (ty_preE (wr := []) (wc := ([(rf_MO mo mw ma mf m0 m1 mu mv u0 u1 iz th mb mn mpt mbg mwr mwk mlf men), (rf_RW ct 0 mw 958 f)] ++ ws)) (ci := 11) (q0 := 0) hP hK hD hS hA hX rfl rfl) rfl rfl hl.1 rfl (lv_room (Nat.le_of_ble_eq_true rfl)) dX11_enqueue_3 ⟨Nat.le_of_ble_eq_true rfl, Nat.le_of_ble_eq_true rfl⟩) hP hD hS hA (fun r_1 u H locs hw_2 hP hD hS => ?_)
  obtain ⟨ws_3, th1_4⟩ := u
  obtain ⟨hT, hp_5⟩ := hw_2
  have hp_5 : ((r_1 = 0 ∧ (0 ≤ p1.toInt ∧ p1.toInt < (G 9).toInt) ∧ 0 ≤ p2.toInt ∧ p2.toInt < (G 10).toInt) ∨ r_1 = 1) := hp_5
  have hP : va_P D vwCl ([(rf_MO mo mw ma mf m0 m1 mu mv u0 u1 iz th1_4 mb mn mpt mbg mwr mwk mlf men), (rf_RW ct 0 mw 958 f)] ++ ws_3) H := hP
  have hD : va_D A ([(rf_MO mo mw ma mf m0 m1 mu mv u0 u1 iz th1_4 mb mn mpt mbg mwr mwk mlf men), (rf_RW ct 0 mw 958 f)] ++ ws_3) := hD
  rcases hp_5 with ⟨rfl, hz_6⟩ | rfl
  · refine lv_if_eq (tgt := 11) hx hb dX11_enqueue_6 (by decide) (fun _ => ?_) (fun hc => absurd (by decide) hc)
    refine lv_aload_n hx hb dX11_enqueue_11 rfl (lv_at hl 0 rfl) ?_
    refine lv_iload_n hx hb dX11_enqueue_12 rfl (lv_at hl 1 rfl) ?_
    refine lv_bipush (v := 39) hx hb dX11_enqueue_13 (by decide) ?_
    refine ty_ki (wr := []) (wc := ([(rf_MO mo mw ma mf m0 m1 mu mv u0 u1 iz th1_4 mb mn mpt mbg mwr mwk mlf men), (rf_RW ct 0 mw 958 f)] ++ ws_3)) (va_runV (As := [.int p1, .int 39]) (rest := []) ⟨hx, hb, hml, hown, hts⟩ (m_of_39 l D ct S ws_3 ph xx mo mw ma mf m0 m1 mu mv u0 u1 iz mb th1_4 mn mpt mbg mwr mwk mlf men f G cx p1 _ hT h_mu h_mv h_u0 h_u1 hph hy1 hR hz_6.1) (cm_V 2 hts kc_X11_of ki_RX11 kl_RX11_209 kv_X11_of kx_X11_of kd_X11_of ⟨Nat.le_of_ble_eq_true rfl, Nat.le_of_ble_eq_true rfl⟩) (ty_preE (wr := []) (wc := ([(rf_MO mo mw ma mf m0 m1 mu mv u0 u1 iz th1_4 mb mn mpt mbg mwr mwk mlf men), (rf_RW ct 0 mw 958 f)] ++ ws_3)) (ci := 11) (q0 := 0) hP hK hD hS hA hX rfl rfl) rfl rfl hl.1 rfl (lv_room (Nat.le_of_ble_eq_true rfl)) dX11_enqueue_15 ⟨Nat.le_of_ble_eq_true rfl, Nat.le_of_ble_eq_true rfl⟩) hP hD hS hA (fun r_7 u H locs hw_8 hP hD hS => ?_)
    obtain ⟨ws_9, rfl⟩ : ∃ z, z = u := ⟨_, rfl⟩
    obtain ⟨hT, rfl⟩ := hw_8
    have hP : va_P D vwCl ([(rf_MO mo mw ma mf m0 m1 mu mv u0 u1 iz th1_4 mb mn mpt mbg mwr mwk mlf men), (rf_RW ct 0 mw 958 f)] ++ ws_9) H := hP
    have hD : va_D A ([(rf_MO mo mw ma mf m0 m1 mu mv u0 u1 iz th1_4 mb mn mpt mbg mwr mwk mlf men), (rf_RW ct 0 mw 958 f)] ++ ws_9) := hD
    refine lv_iconst (v := 4) hx hb dX11_enqueue_18 (by decide) ?_
    refine lv_icmp_ne (tgt := 25) hx hb dX11_enqueue_19 (by decide) (fun hc_10 => ?_) (fun hc_10 => ?_)
    · refine lv_aload_n hx hb dX11_enqueue_25 rfl (lv_at hl 0 rfl) ?_
      refine lv_iload_n hx hb dX11_enqueue_26 rfl (lv_at hl 1 rfl) ?_
      refine lv_bipush (v := 40) hx hb dX11_enqueue_27 (by decide) ?_
      refine lv_aload_n hx hb dX11_enqueue_29 rfl (lv_at hl 0 rfl) ?_
      refine lv_iload_n hx hb dX11_enqueue_30 rfl (lv_at hl 1 rfl) ?_
      refine lv_bipush (v := 39) hx hb dX11_enqueue_31 (by decide) ?_
      refine ty_ki (wr := []) (wc := ([(rf_MO mo mw ma mf m0 m1 mu mv u0 u1 iz th1_4 mb mn mpt mbg mwr mwk mlf men), (rf_RW ct 0 mw 958 f)] ++ ws_9)) (va_runV (As := [.int p1, .int 39]) (rest := [.int 40, .int p1, .ref mo]) ⟨hx, hb, hml, hown, hts⟩ (m_of_39 l D ct S ws_9 ph xx mo mw ma mf m0 m1 mu mv u0 u1 iz mb th1_4 mn mpt mbg mwr mwk mlf men f G cx p1 _ hT h_mu h_mv h_u0 h_u1 hph hy1 hR hz_6.1) (cm_V 2 hts kc_X11_of ki_RX11 kl_RX11_209 kv_X11_of kx_X11_of kd_X11_of ⟨Nat.le_of_ble_eq_true rfl, Nat.le_of_ble_eq_true rfl⟩) (ty_preE (wr := []) (wc := ([(rf_MO mo mw ma mf m0 m1 mu mv u0 u1 iz th1_4 mb mn mpt mbg mwr mwk mlf men), (rf_RW ct 0 mw 958 f)] ++ ws_9)) (ci := 11) (q0 := 0) hP hK hD hS hA hX rfl rfl) rfl rfl hl.1 rfl (lv_room (Nat.le_of_ble_eq_true rfl)) dX11_enqueue_33 ⟨Nat.le_of_ble_eq_true rfl, Nat.le_of_ble_eq_true rfl⟩) hP hD hS hA (fun r_11 u H locs hw_12 hP hD hS => ?_)
      obtain ⟨ws_13, rfl⟩ : ∃ z, z = u := ⟨_, rfl⟩
      obtain ⟨hT, rfl⟩ := hw_12
      have hP : va_P D vwCl ([(rf_MO mo mw ma mf m0 m1 mu mv u0 u1 iz th1_4 mb mn mpt mbg mwr mwk mlf men), (rf_RW ct 0 mw 958 f)] ++ ws_13) H := hP
      have hD : va_D A ([(rf_MO mo mw ma mf m0 m1 mu mv u0 u1 iz th1_4 mb mn mpt mbg mwr mwk mlf men), (rf_RW ct 0 mw 958 f)] ++ ws_13) := hD
      refine lv_iadd hx hb dX11_enqueue_36 ?_
      refine lv_iload_n hx hb dX11_enqueue_37 rfl (lv_at hl 2 rfl) ?_
      refine ty_kv (wr := []) (wc := ([(rf_MO mo mw ma mf m0 m1 mu mv u0 u1 iz th1_4 mb mn mpt mbg mwr mwk mlf men), (rf_RW ct 0 mw 958 f)] ++ ws_13)) (va_runV (As := [.int p1, .int (40 + (rf_of f p1 39)), .int p2]) (rest := []) ⟨hx, hb, hml, hown, hts⟩ (m_put_v l D ct S ws_13 ph xx mo mw ma mf m0 m1 mu mv u0 u1 iz mb th1_4 mn mpt mbg mwr mwk mlf men f G cx p1 (40 + (rf_of f p1 39)) p2 _ hT h_mu h_mv h_u0 h_u1 hph hy1 hR hz_6.1 (by have := (rf_n4 hc_10 (rf_qk hR hz_6.1).1); have := rf_qix (q := rf_of f p1 39) (by omega); omega) (rf_kq (by have := (rf_n4 hc_10 (rf_qk hR hz_6.1).1); have := rf_qix (q := rf_of f p1 39) (by omega); omega) (by have := hz_6.2; omega))) (cm_V 3 hts kc_X11_put ki_RX11 kl_RX11_234 kv_X11_put kx_X11_put kd_X11_put ⟨Nat.le_of_ble_eq_true rfl, Nat.le_of_ble_eq_true rfl⟩) (ty_preE (wr := []) (wc := ([(rf_MO mo mw ma mf m0 m1 mu mv u0 u1 iz th1_4 mb mn mpt mbg mwr mwk mlf men), (rf_RW ct 0 mw 958 f)] ++ ws_13)) (ci := 11) (q0 := 0) hP hK hD hS hA hX rfl rfl) rfl rfl hl.1 rfl (lv_room (Nat.le_of_ble_eq_true rfl)) dX11_enqueue_38 ⟨Nat.le_of_ble_eq_true rfl, Nat.le_of_ble_eq_true rfl⟩) hP hD hS hA (fun u H locs hw_15 hP hD hS => ?_)
      obtain ⟨ws_16, f1_17⟩ := u
      obtain ⟨hT, hp_18⟩ := hw_15
      have hp_18 : rf_d (f 8) f f1_17 ∧ rf_R G cx f1_17 ∧ rf_sm f f1_17 ∧ f1_17 = upd f (244 + 54 * p1.toInt.toNat + (40 + (rf_of f p1 39)).toInt.toNat) p2 := hp_18
      obtain ⟨hd_19, hq_20⟩ := hp_18
      have hD_21 := rf_dt (rf_dr f) hd_19
      have hR_22 := hq_20.1
      have hM_23 := rf_smt (rf_smr f) hq_20.2.1
      have hP : va_P D vwCl ([(rf_MO mo mw ma mf m0 m1 mu mv u0 u1 iz th1_4 mb mn mpt mbg mwr mwk mlf men), (rf_RW ct 0 mw 958 f1_17)] ++ ws_16) H := hP
      have hD : va_D A ([(rf_MO mo mw ma mf m0 m1 mu mv u0 u1 iz th1_4 mb mn mpt mbg mwr mwk mlf men), (rf_RW ct 0 mw 958 f1_17)] ++ ws_16) := hD
      refine lv_aload_n hx hb dX11_enqueue_41 rfl (lv_at hl 0 rfl) ?_
      refine lv_iload_n hx hb dX11_enqueue_42 rfl (lv_at hl 1 rfl) ?_
      refine lv_bipush (v := 39) hx hb dX11_enqueue_43 (by decide) ?_
      refine lv_aload_n hx hb dX11_enqueue_45 rfl (lv_at hl 0 rfl) ?_
      refine lv_iload_n hx hb dX11_enqueue_46 rfl (lv_at hl 1 rfl) ?_
      refine lv_bipush (v := 39) hx hb dX11_enqueue_47 (by decide) ?_
      refine ty_ki (wr := []) (wc := ([(rf_MO mo mw ma mf m0 m1 mu mv u0 u1 iz th1_4 mb mn mpt mbg mwr mwk mlf men), (rf_RW ct 0 mw 958 f1_17)] ++ ws_16)) (va_runV (As := [.int p1, .int 39]) (rest := [.int 39, .int p1, .ref mo]) ⟨hx, hb, hml, hown, hts⟩ (m_of_39 l D ct S ws_16 ph xx mo mw ma mf m0 m1 mu mv u0 u1 iz mb th1_4 mn mpt mbg mwr mwk mlf men f1_17 G cx p1 _ hT h_mu h_mv h_u0 h_u1 hph hy1 hR_22 hz_6.1) (cm_V 2 hts kc_X11_of ki_RX11 kl_RX11_209 kv_X11_of kx_X11_of kd_X11_of ⟨Nat.le_of_ble_eq_true rfl, Nat.le_of_ble_eq_true rfl⟩) (ty_preE (wr := []) (wc := ([(rf_MO mo mw ma mf m0 m1 mu mv u0 u1 iz th1_4 mb mn mpt mbg mwr mwk mlf men), (rf_RW ct 0 mw 958 f1_17)] ++ ws_16)) (ci := 11) (q0 := 0) hP hK hD hS hA hX rfl rfl) rfl rfl hl.1 rfl (lv_room (Nat.le_of_ble_eq_true rfl)) dX11_enqueue_49 ⟨Nat.le_of_ble_eq_true rfl, Nat.le_of_ble_eq_true rfl⟩) hP hD hS hA (fun r_24 u H locs hw_25 hP hD hS => ?_)
      obtain ⟨ws_26, rfl⟩ : ∃ z, z = u := ⟨_, rfl⟩
      obtain ⟨hT, rfl⟩ := hw_25
      have hP : va_P D vwCl ([(rf_MO mo mw ma mf m0 m1 mu mv u0 u1 iz th1_4 mb mn mpt mbg mwr mwk mlf men), (rf_RW ct 0 mw 958 f1_17)] ++ ws_26) H := hP
      have hD : va_D A ([(rf_MO mo mw ma mf m0 m1 mu mv u0 u1 iz th1_4 mb mn mpt mbg mwr mwk mlf men), (rf_RW ct 0 mw 958 f1_17)] ++ ws_26) := hD
      refine lv_iconst (v := 1) hx hb dX11_enqueue_52 (by decide) ?_
      refine lv_iadd hx hb dX11_enqueue_53 ?_
      refine ty_kv (wr := []) (wc := ([(rf_MO mo mw ma mf m0 m1 mu mv u0 u1 iz th1_4 mb mn mpt mbg mwr mwk mlf men), (rf_RW ct 0 mw 958 f1_17)] ++ ws_26)) (va_runV (As := [.int p1, .int 39, .int ((rf_of f1_17 p1 39) + 1)]) (rest := []) ⟨hx, hb, hml, hown, hts⟩ (m_put_39 l D ct S ws_26 ph xx mo mw ma mf m0 m1 mu mv u0 u1 iz mb th1_4 mn mpt mbg mwr mwk mlf men f1_17 G cx p1 ((rf_of f1_17 p1 39) + 1) _ hT h_mu h_mv h_u0 h_u1 hph hy1 hR_22 hz_6.1 (rf_k39 (by rw [show rf_of f1_17 p1 39 = rf_of f p1 39 from by rw [hq_20.2.2]; exact rf_ne (by have := (rf_n4 hc_10 (rf_qk hR hz_6.1).1); have := rf_qix (q := rf_of f p1 39) (by omega); omega)]; have := (rf_n4 hc_10 (rf_qk hR hz_6.1).1); have := rf_inc9 this (by omega) (by omega); omega) (by have := hz_6.2; omega))) (cm_V 3 hts kc_X11_put ki_RX11 kl_RX11_234 kv_X11_put kx_X11_put kd_X11_put ⟨Nat.le_of_ble_eq_true rfl, Nat.le_of_ble_eq_true rfl⟩) (ty_preE (wr := []) (wc := ([(rf_MO mo mw ma mf m0 m1 mu mv u0 u1 iz th1_4 mb mn mpt mbg mwr mwk mlf men), (rf_RW ct 0 mw 958 f1_17)] ++ ws_26)) (ci := 11) (q0 := 0) hP hK hD hS hA hX rfl rfl) rfl rfl hl.1 rfl (lv_room (Nat.le_of_ble_eq_true rfl)) dX11_enqueue_54 ⟨Nat.le_of_ble_eq_true rfl, Nat.le_of_ble_eq_true rfl⟩) hP hD hS hA (fun u H locs hw_28 hP hD hS => ?_)
      obtain ⟨ws_29, f1_30⟩ := u
      obtain ⟨hT, hp_31⟩ := hw_28
      have hp_31 : rf_d (f1_17 8) f1_17 f1_30 ∧ rf_R G cx f1_30 ∧ rf_sm f1_17 f1_30 ∧ f1_30 = upd f1_17 (244 + 54 * p1.toInt.toNat + 39) ((rf_of f1_17 p1 39) + 1) := hp_31
      obtain ⟨hd_32, hq_33⟩ := hp_31
      have hD_34 := rf_dt hD_21 hd_32
      have hR_35 := hq_33.1
      have hM_36 := rf_smt hM_23 hq_33.2.1
      have hP : va_P D vwCl ([(rf_MO mo mw ma mf m0 m1 mu mv u0 u1 iz th1_4 mb mn mpt mbg mwr mwk mlf men), (rf_RW ct 0 mw 958 f1_30)] ++ ws_29) H := hP
      have hD : va_D A ([(rf_MO mo mw ma mf m0 m1 mu mv u0 u1 iz th1_4 mb mn mpt mbg mwr mwk mlf men), (rf_RW ct 0 mw 958 f1_30)] ++ ws_29) := hD
      refine lv_aload_n hx hb dX11_enqueue_57 rfl (lv_at hl 0 rfl) ?_
      refine lv_iload_n hx hb dX11_enqueue_58 rfl (lv_at hl 1 rfl) ?_
      refine lv_bipush (v := 39) hx hb dX11_enqueue_59 (by decide) ?_
      refine ty_ki (wr := []) (wc := ([(rf_MO mo mw ma mf m0 m1 mu mv u0 u1 iz th1_4 mb mn mpt mbg mwr mwk mlf men), (rf_RW ct 0 mw 958 f1_30)] ++ ws_29)) (va_runV (As := [.int p1, .int 39]) (rest := []) ⟨hx, hb, hml, hown, hts⟩ (m_of_39 l D ct S ws_29 ph xx mo mw ma mf m0 m1 mu mv u0 u1 iz mb th1_4 mn mpt mbg mwr mwk mlf men f1_30 G cx p1 _ hT h_mu h_mv h_u0 h_u1 hph hy1 hR_35 hz_6.1) (cm_V 2 hts kc_X11_of ki_RX11 kl_RX11_209 kv_X11_of kx_X11_of kd_X11_of ⟨Nat.le_of_ble_eq_true rfl, Nat.le_of_ble_eq_true rfl⟩) (ty_preE (wr := []) (wc := ([(rf_MO mo mw ma mf m0 m1 mu mv u0 u1 iz th1_4 mb mn mpt mbg mwr mwk mlf men), (rf_RW ct 0 mw 958 f1_30)] ++ ws_29)) (ci := 11) (q0 := 0) hP hK hD hS hA hX rfl rfl) rfl rfl hl.1 rfl (lv_room (Nat.le_of_ble_eq_true rfl)) dX11_enqueue_61 ⟨Nat.le_of_ble_eq_true rfl, Nat.le_of_ble_eq_true rfl⟩) hP hD hS hA (fun r_37 u H locs hw_38 hP hD hS => ?_)
      obtain ⟨ws_39, rfl⟩ : ∃ z, z = u := ⟨_, rfl⟩
      obtain ⟨hT, rfl⟩ := hw_38
      have hP : va_P D vwCl ([(rf_MO mo mw ma mf m0 m1 mu mv u0 u1 iz th1_4 mb mn mpt mbg mwr mwk mlf men), (rf_RW ct 0 mw 958 f1_30)] ++ ws_39) H := hP
      have hD : va_D A ([(rf_MO mo mw ma mf m0 m1 mu mv u0 u1 iz th1_4 mb mn mpt mbg mwr mwk mlf men), (rf_RW ct 0 mw 958 f1_30)] ++ ws_39) := hD
      exact W.iret (v := (rf_of f1_30 p1 39)) hx hb hr (fun t ht hW => ⟨⟨(rf_of f1_30 p1 39), (ws_39, th1_4, f1_30), rfl, ⟨hT, ⟨hD_34, hR_35, hM_36⟩⟩, by rw [ht]; exact hP, by rw [hAe]; exact hD⟩, hS.F ht⟩) hS.2.2 dX11_enqueue_64
    · refine lv_bipush (v := (-2)) hx hb dX11_enqueue_22 (by decide) ?_
      exact W.iret (v := (-2)) hx hb hr (fun t ht hW => ⟨⟨(-2), (ws_9, th1_4, f), rfl, ⟨hT, ⟨(rf_dr f), hR, (rf_smr f)⟩⟩, by rw [ht]; exact hP, by rw [hAe]; exact hD⟩, hS.F ht⟩) hS.2.2 dX11_enqueue_24
  · refine lv_if_eq (tgt := 11) hx hb dX11_enqueue_6 (by decide) (fun hc => absurd hc (by decide)) (fun _ => ?_)
    refine lv_iconst (v := 0) hx hb dX11_enqueue_9 (by decide) ?_
    exact W.iret (v := 0) hx hb hr (fun t ht hW => ⟨⟨0, (ws_3, th1_4, f), rfl, ⟨hT, ⟨(rf_dr f), hR, (rf_smr f)⟩⟩, by rw [ht]; exact hP, by rw [hAe]; exact hD⟩, hS.F ht⟩) hS.2.2 dX11_enqueue_10
theorem dX11_dequeue_0 : decode cX11_dequeue 0 = .ok (.aload_n 0, 1) := by decide +kernel
theorem dX11_dequeue_1 : decode cX11_dequeue 1 = .ok (.iload_n 1, 1) := by decide +kernel
theorem dX11_dequeue_2 : decode cX11_dequeue 2 = .ok (.invokevirtual 344, 3) := by decide +kernel
theorem dX11_dequeue_5 : decode cX11_dequeue 5 = .ok (.ifCond .eq 5, 3) := by decide +kernel
theorem dX11_dequeue_8 : decode cX11_dequeue 8 = .ok (.iconst 0, 1) := by decide +kernel
theorem dX11_dequeue_9 : decode cX11_dequeue 9 = .ok (.ireturn, 1) := by decide +kernel
theorem dX11_dequeue_10 : decode cX11_dequeue 10 = .ok (.aload_n 0, 1) := by decide +kernel
theorem dX11_dequeue_11 : decode cX11_dequeue 11 = .ok (.iload_n 1, 1) := by decide +kernel
theorem dX11_dequeue_12 : decode cX11_dequeue 12 = .ok (.bipush 39, 2) := by decide +kernel
theorem dX11_dequeue_14 : decode cX11_dequeue 14 = .ok (.invokevirtual 209, 3) := by decide +kernel
theorem dX11_dequeue_17 : decode cX11_dequeue 17 = .ok (.ifCond .ne 5, 3) := by decide +kernel
theorem dX11_dequeue_20 : decode cX11_dequeue 20 = .ok (.iconst (-1), 1) := by decide +kernel
theorem dX11_dequeue_21 : decode cX11_dequeue 21 = .ok (.ireturn, 1) := by decide +kernel
theorem dX11_dequeue_22 : decode cX11_dequeue 22 = .ok (.aload_n 0, 1) := by decide +kernel
theorem dX11_dequeue_23 : decode cX11_dequeue 23 = .ok (.iload_n 1, 1) := by decide +kernel
theorem dX11_dequeue_24 : decode cX11_dequeue 24 = .ok (.bipush 39, 2) := by decide +kernel
theorem dX11_dequeue_26 : decode cX11_dequeue 26 = .ok (.aload_n 0, 1) := by decide +kernel
theorem dX11_dequeue_27 : decode cX11_dequeue 27 = .ok (.iload_n 1, 1) := by decide +kernel
theorem dX11_dequeue_28 : decode cX11_dequeue 28 = .ok (.bipush 39, 2) := by decide +kernel
theorem dX11_dequeue_30 : decode cX11_dequeue 30 = .ok (.invokevirtual 209, 3) := by decide +kernel
theorem dX11_dequeue_33 : decode cX11_dequeue 33 = .ok (.iconst 1, 1) := by decide +kernel
theorem dX11_dequeue_34 : decode cX11_dequeue 34 = .ok (.isub, 1) := by decide +kernel
theorem dX11_dequeue_35 : decode cX11_dequeue 35 = .ok (.invokevirtual 234, 3) := by decide +kernel
theorem dX11_dequeue_38 : decode cX11_dequeue 38 = .ok (.aload_n 0, 1) := by decide +kernel
theorem dX11_dequeue_39 : decode cX11_dequeue 39 = .ok (.iload_n 1, 1) := by decide +kernel
theorem dX11_dequeue_40 : decode cX11_dequeue 40 = .ok (.bipush 40, 2) := by decide +kernel
theorem dX11_dequeue_42 : decode cX11_dequeue 42 = .ok (.aload_n 0, 1) := by decide +kernel
theorem dX11_dequeue_43 : decode cX11_dequeue 43 = .ok (.iload_n 1, 1) := by decide +kernel
theorem dX11_dequeue_44 : decode cX11_dequeue 44 = .ok (.bipush 39, 2) := by decide +kernel
theorem dX11_dequeue_46 : decode cX11_dequeue 46 = .ok (.invokevirtual 209, 3) := by decide +kernel
theorem dX11_dequeue_49 : decode cX11_dequeue 49 = .ok (.iadd, 1) := by decide +kernel
theorem dX11_dequeue_50 : decode cX11_dequeue 50 = .ok (.invokevirtual 209, 3) := by decide +kernel
theorem dX11_dequeue_53 : decode cX11_dequeue 53 = .ok (.ireturn, 1) := by decide +kernel
set_option maxRecDepth 100000 in
set_option maxHeartbeats 4000000 in
theorem m_X11_dequeue (l : Launch) (D : va_G) (ct : Nat → ClassId) (S : ty_S) (ws : va_W) (ph : va_W → Prop) (xx : Nat → Nat → Nat → Prop) (mo : Nat) (mw : Nat) (ma : Nat) (mf : Nat) (m0 : Nat) (m1 : Nat) (mu : Nat) (mv : Nat) (u0 : Nat) (u1 : Nat) (iz : Nat) (mb : Nat) (th : Int32) (mn : Int32) (mpt : Int32) (mbg : Int32) (mwr : Int32) (mwk : Int32) (mlf : Int32) (men : Int32) (f : Nat → Int32) (G : Nat → Int32) (cx : Int) (p1 : Int32) (sz : Nat) (hT : ty_V ct S ph ws) (h_mu : S mu = some (.inr (1, 42))) (h_mv : S mv = some (.inr (1, 42))) (h_u0 : S u0 = some (.inr (1, 42))) (h_u1 : S u1 = some (.inr (1, 42))) (hph : ty_C ph xx) (hy1 : ty_y1 xx) (hR : rf_R G cx f) : Met l yX11_dequeue (ws_ yX11_dequeue cX11_dequeue 2 (some .int)) ({ frames := 2, cells := 0, slots := 0, locals := 46 } : Room) (va_Pc [.ref mo, .int p1] (cmP D ct sz ([(rf_MO mo mw ma mf m0 m1 mu mv u0 u1 iz th mb mn mpt mbg mwr mwk mlf men), (rf_RW ct 0 mw 958 f)] ++ ws))) (va_Qi (fun (r : Int32) (u : va_W × Int32 × (Nat → Int32)) => match u with | (u9, th1, f1) => ty_V ct S ph u9 ∧ rf_d (f 8) f f1 ∧ rf_R G cx f1 ∧ rf_sm f f1) (cmB D ([(rf_MO mo mw ma mf m0 m1 mu mv u0 u1 iz th mb mn mpt mbg mwr mwk mlf men), (rf_RW ct 0 mw 958 f)] ++ ws) sz (fun (u : va_W × Int32 × (Nat → Int32)) => match u with | (u9, th1, f1) => ([(rf_MO mo mw ma mf m0 m1 mu mv u0 u1 iz th1 mb mn mpt mbg mwr mwk mlf men), (rf_RW ct 0 mw 958 f1)] ++ u9))) (va_A ([(rf_MO mo mw ma mf m0 m1 mu mv u0 u1 iz th mb mn mpt mbg mwr mwk mlf men), (rf_RW ct 0 mw 958 f)] ++ ws) sz)) 0 0 (va_A ([(rf_MO mo mw ma mf m0 m1 mu mv u0 u1 iz th mb mn mpt mbg mwr mwk mlf men), (rf_RW ct 0 mw 958 f)] ++ ws) sz) := by
  refine Met.ofW (cc := cX11_dequeue) (maxL := 2) (ret := (some .int)) (by decide) rfl ?_
  intro p e s m args below meth c s₁ B hml hv
  obtain ⟨rfl, hsz, hP, hK, hD0, hX⟩ := hv
  have hx := B.exec
  have hb := B.bytes
  have hr := B.returns
  have hts := ws_all (atoms_spec (ws := ws_ yX11_dequeue cX11_dequeue 2 (some .int)) B.pre)
  have hown : s.vm.findClass RX11 = some m.cls := findClass_of_methodNamed B.named
  have hlocks := B.notSynchronized
  subst hsz
  have hD := hD0.self (sz := s.heap.size)
  generalize hAe : va_A ([(rf_MO mo mw ma mf m0 m1 mu mv u0 u1 iz th mb mn mpt mbg mwr mwk mlf men), (rf_RW ct 0 mw 958 f)] ++ ws) s.heap.size = A at hD hX ⊢
  have hA : ∀ q : Nat, s.heap.size ≤ q → A q := fun q h => by rw [← hAe]; exact Or.inr h
  have hS : va_S A s.heap s.heap [] := va_S.rf
  have hl := lv_entry ([.ref mo, .int p1]) (n := 2) (Nat.le_of_ble_eq_true rfl)
  rw [lg_entry_eq]
  generalize (lg_sl ([.ref mo, .int p1]) ++ List.replicate (2 - (lg_sl ([.ref mo, .int p1])).length) Slot.unset).toArray = ls at hl ⊢
  have hl : lv_has ls 2 [(0, .ref mo), (1, .int p1)] := hl
  refine lv_aload_n hx hb dX11_dequeue_0 rfl (lv_at hl 0 rfl) ?_
  refine lv_iload_n hx hb dX11_dequeue_1 rfl (lv_at hl 1 rfl) ?_
  refine ty_ki (wr := []) (wc := ([(rf_MO mo mw ma mf m0 m1 mu mv u0 u1 iz th mb mn mpt mbg mwr mwk mlf men), (rf_RW ct 0 mw 958 f)] ++ ws)) (va_runV (As := [.int p1]) (rest := []) ⟨hx, hb, hml, hown, hts⟩ (m_X11_noChannel l D ct S ws ph xx mo mw ma mf m0 m1 mu mv u0 u1 iz mb th mn mpt mbg mwr mwk mlf men f G cx p1 _ hT h_mu h_mv h_u0 h_u1 hph hy1 hR) (cm_V 1 hts kc_X11_noChannel ki_RX11 kl_RX11_344 kv_X11_noChannel kx_X11_noChannel kd_X11_noChannel ⟨Nat.le_of_ble_eq_true rfl, Nat.le_of_ble_eq_true rfl⟩) (ty_preE (wr := []) (wc := ([(rf_MO mo mw ma mf m0 m1 mu mv u0 u1 iz th mb mn mpt mbg mwr mwk mlf men), (rf_RW ct 0 mw 958 f)] ++ ws)) (ci := 11) (q0 := 0) hP hK hD hS hA hX rfl rfl) rfl rfl hl.1 rfl (lv_room (Nat.le_of_ble_eq_true rfl)) dX11_dequeue_2 ⟨Nat.le_of_ble_eq_true rfl, Nat.le_of_ble_eq_true rfl⟩) hP hD hS hA (fun r_1 u H locs hw_2 hP hD hS => ?_)
  obtain ⟨ws_3, th1_4⟩ := u
  obtain ⟨hT, hp_5⟩ := hw_2
  have hp_5 : ((r_1 = 0 ∧ 0 ≤ p1.toInt ∧ p1.toInt < (G 9).toInt) ∨ r_1 = 1) := hp_5
  have hP : va_P D vwCl ([(rf_MO mo mw ma mf m0 m1 mu mv u0 u1 iz th1_4 mb mn mpt mbg mwr mwk mlf men), (rf_RW ct 0 mw 958 f)] ++ ws_3) H := hP
  have hD : va_D A ([(rf_MO mo mw ma mf m0 m1 mu mv u0 u1 iz th1_4 mb mn mpt mbg mwr mwk mlf men), (rf_RW ct 0 mw 958 f)] ++ ws_3) := hD
  rcases hp_5 with ⟨rfl, hz_6⟩ | rfl
  · refine lv_if_eq (tgt := 10) hx hb dX11_dequeue_5 (by decide) (fun _ => ?_) (fun hc => absurd (by decide) hc)
    refine lv_aload_n hx hb dX11_dequeue_10 rfl (lv_at hl 0 rfl) ?_
    refine lv_iload_n hx hb dX11_dequeue_11 rfl (lv_at hl 1 rfl) ?_
    refine lv_bipush (v := 39) hx hb dX11_dequeue_12 (by decide) ?_
    refine ty_ki (wr := []) (wc := ([(rf_MO mo mw ma mf m0 m1 mu mv u0 u1 iz th1_4 mb mn mpt mbg mwr mwk mlf men), (rf_RW ct 0 mw 958 f)] ++ ws_3)) (va_runV (As := [.int p1, .int 39]) (rest := []) ⟨hx, hb, hml, hown, hts⟩ (m_of_39 l D ct S ws_3 ph xx mo mw ma mf m0 m1 mu mv u0 u1 iz mb th1_4 mn mpt mbg mwr mwk mlf men f G cx p1 _ hT h_mu h_mv h_u0 h_u1 hph hy1 hR hz_6) (cm_V 2 hts kc_X11_of ki_RX11 kl_RX11_209 kv_X11_of kx_X11_of kd_X11_of ⟨Nat.le_of_ble_eq_true rfl, Nat.le_of_ble_eq_true rfl⟩) (ty_preE (wr := []) (wc := ([(rf_MO mo mw ma mf m0 m1 mu mv u0 u1 iz th1_4 mb mn mpt mbg mwr mwk mlf men), (rf_RW ct 0 mw 958 f)] ++ ws_3)) (ci := 11) (q0 := 0) hP hK hD hS hA hX rfl rfl) rfl rfl hl.1 rfl (lv_room (Nat.le_of_ble_eq_true rfl)) dX11_dequeue_14 ⟨Nat.le_of_ble_eq_true rfl, Nat.le_of_ble_eq_true rfl⟩) hP hD hS hA (fun r_7 u H locs hw_8 hP hD hS => ?_)
    obtain ⟨ws_9, rfl⟩ : ∃ z, z = u := ⟨_, rfl⟩
    obtain ⟨hT, rfl⟩ := hw_8
    have hP : va_P D vwCl ([(rf_MO mo mw ma mf m0 m1 mu mv u0 u1 iz th1_4 mb mn mpt mbg mwr mwk mlf men), (rf_RW ct 0 mw 958 f)] ++ ws_9) H := hP
    have hD : va_D A ([(rf_MO mo mw ma mf m0 m1 mu mv u0 u1 iz th1_4 mb mn mpt mbg mwr mwk mlf men), (rf_RW ct 0 mw 958 f)] ++ ws_9) := hD
    refine lv_if_ne (tgt := 22) hx hb dX11_dequeue_17 (by decide) (fun hc_10 => ?_) (fun hc_10 => ?_)
    · refine lv_aload_n hx hb dX11_dequeue_22 rfl (lv_at hl 0 rfl) ?_
      refine lv_iload_n hx hb dX11_dequeue_23 rfl (lv_at hl 1 rfl) ?_
      refine lv_bipush (v := 39) hx hb dX11_dequeue_24 (by decide) ?_
      refine lv_aload_n hx hb dX11_dequeue_26 rfl (lv_at hl 0 rfl) ?_
      refine lv_iload_n hx hb dX11_dequeue_27 rfl (lv_at hl 1 rfl) ?_
      refine lv_bipush (v := 39) hx hb dX11_dequeue_28 (by decide) ?_
      refine ty_ki (wr := []) (wc := ([(rf_MO mo mw ma mf m0 m1 mu mv u0 u1 iz th1_4 mb mn mpt mbg mwr mwk mlf men), (rf_RW ct 0 mw 958 f)] ++ ws_9)) (va_runV (As := [.int p1, .int 39]) (rest := [.int 39, .int p1, .ref mo]) ⟨hx, hb, hml, hown, hts⟩ (m_of_39 l D ct S ws_9 ph xx mo mw ma mf m0 m1 mu mv u0 u1 iz mb th1_4 mn mpt mbg mwr mwk mlf men f G cx p1 _ hT h_mu h_mv h_u0 h_u1 hph hy1 hR hz_6) (cm_V 2 hts kc_X11_of ki_RX11 kl_RX11_209 kv_X11_of kx_X11_of kd_X11_of ⟨Nat.le_of_ble_eq_true rfl, Nat.le_of_ble_eq_true rfl⟩) (ty_preE (wr := []) (wc := ([(rf_MO mo mw ma mf m0 m1 mu mv u0 u1 iz th1_4 mb mn mpt mbg mwr mwk mlf men), (rf_RW ct 0 mw 958 f)] ++ ws_9)) (ci := 11) (q0 := 0) hP hK hD hS hA hX rfl rfl) rfl rfl hl.1 rfl (lv_room (Nat.le_of_ble_eq_true rfl)) dX11_dequeue_30 ⟨Nat.le_of_ble_eq_true rfl, Nat.le_of_ble_eq_true rfl⟩) hP hD hS hA (fun r_11 u H locs hw_12 hP hD hS => ?_)
      obtain ⟨ws_13, rfl⟩ : ∃ z, z = u := ⟨_, rfl⟩
      obtain ⟨hT, rfl⟩ := hw_12
      have hP : va_P D vwCl ([(rf_MO mo mw ma mf m0 m1 mu mv u0 u1 iz th1_4 mb mn mpt mbg mwr mwk mlf men), (rf_RW ct 0 mw 958 f)] ++ ws_13) H := hP
      have hD : va_D A ([(rf_MO mo mw ma mf m0 m1 mu mv u0 u1 iz th1_4 mb mn mpt mbg mwr mwk mlf men), (rf_RW ct 0 mw 958 f)] ++ ws_13) := hD
      refine lv_iconst (v := 1) hx hb dX11_dequeue_33 (by decide) ?_
      refine lv_isub hx hb dX11_dequeue_34 ?_
      refine ty_kv (wr := []) (wc := ([(rf_MO mo mw ma mf m0 m1 mu mv u0 u1 iz th1_4 mb mn mpt mbg mwr mwk mlf men), (rf_RW ct 0 mw 958 f)] ++ ws_13)) (va_runV (As := [.int p1, .int 39, .int ((rf_of f p1 39) - 1)]) (rest := []) ⟨hx, hb, hml, hown, hts⟩ (m_put_39 l D ct S ws_13 ph xx mo mw ma mf m0 m1 mu mv u0 u1 iz mb th1_4 mn mpt mbg mwr mwk mlf men f G cx p1 ((rf_of f p1 39) - 1) _ hT h_mu h_mv h_u0 h_u1 hph hy1 hR hz_6 (rf_q39 hR hz_6 (rf_n0 hc_10 (rf_qk hR hz_6).1.1))) (cm_V 3 hts kc_X11_put ki_RX11 kl_RX11_234 kv_X11_put kx_X11_put kd_X11_put ⟨Nat.le_of_ble_eq_true rfl, Nat.le_of_ble_eq_true rfl⟩) (ty_preE (wr := []) (wc := ([(rf_MO mo mw ma mf m0 m1 mu mv u0 u1 iz th1_4 mb mn mpt mbg mwr mwk mlf men), (rf_RW ct 0 mw 958 f)] ++ ws_13)) (ci := 11) (q0 := 0) hP hK hD hS hA hX rfl rfl) rfl rfl hl.1 rfl (lv_room (Nat.le_of_ble_eq_true rfl)) dX11_dequeue_35 ⟨Nat.le_of_ble_eq_true rfl, Nat.le_of_ble_eq_true rfl⟩) hP hD hS hA (fun u H locs hw_15 hP hD hS => ?_)
      obtain ⟨ws_16, f1_17⟩ := u
      obtain ⟨hT, hp_18⟩ := hw_15
      have hp_18 : rf_d (f 8) f f1_17 ∧ rf_R G cx f1_17 ∧ rf_sm f f1_17 ∧ f1_17 = upd f (244 + 54 * p1.toInt.toNat + 39) ((rf_of f p1 39) - 1) := hp_18
      obtain ⟨hd_19, hq_20⟩ := hp_18
      have hD_21 := rf_dt (rf_dr f) hd_19
      have hR_22 := hq_20.1
      have hM_23 := rf_smt (rf_smr f) hq_20.2.1
      have hP : va_P D vwCl ([(rf_MO mo mw ma mf m0 m1 mu mv u0 u1 iz th1_4 mb mn mpt mbg mwr mwk mlf men), (rf_RW ct 0 mw 958 f1_17)] ++ ws_16) H := hP
      have hD : va_D A ([(rf_MO mo mw ma mf m0 m1 mu mv u0 u1 iz th1_4 mb mn mpt mbg mwr mwk mlf men), (rf_RW ct 0 mw 958 f1_17)] ++ ws_16) := hD
      refine lv_aload_n hx hb dX11_dequeue_38 rfl (lv_at hl 0 rfl) ?_
      refine lv_iload_n hx hb dX11_dequeue_39 rfl (lv_at hl 1 rfl) ?_
      refine lv_bipush (v := 40) hx hb dX11_dequeue_40 (by decide) ?_
      refine lv_aload_n hx hb dX11_dequeue_42 rfl (lv_at hl 0 rfl) ?_
      refine lv_iload_n hx hb dX11_dequeue_43 rfl (lv_at hl 1 rfl) ?_
      refine lv_bipush (v := 39) hx hb dX11_dequeue_44 (by decide) ?_
      refine ty_ki (wr := []) (wc := ([(rf_MO mo mw ma mf m0 m1 mu mv u0 u1 iz th1_4 mb mn mpt mbg mwr mwk mlf men), (rf_RW ct 0 mw 958 f1_17)] ++ ws_16)) (va_runV (As := [.int p1, .int 39]) (rest := [.int 40, .int p1, .ref mo]) ⟨hx, hb, hml, hown, hts⟩ (m_of_39 l D ct S ws_16 ph xx mo mw ma mf m0 m1 mu mv u0 u1 iz mb th1_4 mn mpt mbg mwr mwk mlf men f1_17 G cx p1 _ hT h_mu h_mv h_u0 h_u1 hph hy1 hR_22 hz_6) (cm_V 2 hts kc_X11_of ki_RX11 kl_RX11_209 kv_X11_of kx_X11_of kd_X11_of ⟨Nat.le_of_ble_eq_true rfl, Nat.le_of_ble_eq_true rfl⟩) (ty_preE (wr := []) (wc := ([(rf_MO mo mw ma mf m0 m1 mu mv u0 u1 iz th1_4 mb mn mpt mbg mwr mwk mlf men), (rf_RW ct 0 mw 958 f1_17)] ++ ws_16)) (ci := 11) (q0 := 0) hP hK hD hS hA hX rfl rfl) rfl rfl hl.1 rfl (lv_room (Nat.le_of_ble_eq_true rfl)) dX11_dequeue_46 ⟨Nat.le_of_ble_eq_true rfl, Nat.le_of_ble_eq_true rfl⟩) hP hD hS hA (fun r_24 u H locs hw_25 hP hD hS => ?_)
      obtain ⟨ws_26, rfl⟩ : ∃ z, z = u := ⟨_, rfl⟩
      obtain ⟨hT, rfl⟩ := hw_25
      have hP : va_P D vwCl ([(rf_MO mo mw ma mf m0 m1 mu mv u0 u1 iz th1_4 mb mn mpt mbg mwr mwk mlf men), (rf_RW ct 0 mw 958 f1_17)] ++ ws_26) H := hP
      have hD : va_D A ([(rf_MO mo mw ma mf m0 m1 mu mv u0 u1 iz th1_4 mb mn mpt mbg mwr mwk mlf men), (rf_RW ct 0 mw 958 f1_17)] ++ ws_26) := hD
      refine lv_iadd hx hb dX11_dequeue_49 ?_
      refine ty_ki (wr := []) (wc := ([(rf_MO mo mw ma mf m0 m1 mu mv u0 u1 iz th1_4 mb mn mpt mbg mwr mwk mlf men), (rf_RW ct 0 mw 958 f1_17)] ++ ws_26)) (va_runV (As := [.int p1, .int (40 + (rf_of f1_17 p1 39))]) (rest := []) ⟨hx, hb, hml, hown, hts⟩ (m_of_v l D ct S ws_26 ph xx mo mw ma mf m0 m1 mu mv u0 u1 iz mb th1_4 mn mpt mbg mwr mwk mlf men f1_17 G cx p1 (40 + (rf_of f1_17 p1 39)) _ hT h_mu h_mv h_u0 h_u1 hph hy1 hR_22 hz_6 (by have := (rf_qk hR_22 hz_6); have := rf_qix (q := rf_of f1_17 p1 39) (by omega); omega)) (cm_V 2 hts kc_X11_of ki_RX11 kl_RX11_209 kv_X11_of kx_X11_of kd_X11_of ⟨Nat.le_of_ble_eq_true rfl, Nat.le_of_ble_eq_true rfl⟩) (ty_preE (wr := []) (wc := ([(rf_MO mo mw ma mf m0 m1 mu mv u0 u1 iz th1_4 mb mn mpt mbg mwr mwk mlf men), (rf_RW ct 0 mw 958 f1_17)] ++ ws_26)) (ci := 11) (q0 := 0) hP hK hD hS hA hX rfl rfl) rfl rfl hl.1 rfl (lv_room (Nat.le_of_ble_eq_true rfl)) dX11_dequeue_50 ⟨Nat.le_of_ble_eq_true rfl, Nat.le_of_ble_eq_true rfl⟩) hP hD hS hA (fun r_27 u H locs hw_28 hP hD hS => ?_)
      obtain ⟨ws_29, rfl⟩ : ∃ z, z = u := ⟨_, rfl⟩
      obtain ⟨hT, rfl⟩ := hw_28
      have hP : va_P D vwCl ([(rf_MO mo mw ma mf m0 m1 mu mv u0 u1 iz th1_4 mb mn mpt mbg mwr mwk mlf men), (rf_RW ct 0 mw 958 f1_17)] ++ ws_29) H := hP
      have hD : va_D A ([(rf_MO mo mw ma mf m0 m1 mu mv u0 u1 iz th1_4 mb mn mpt mbg mwr mwk mlf men), (rf_RW ct 0 mw 958 f1_17)] ++ ws_29) := hD
      exact W.iret (v := (rf_of f1_17 p1 (40 + (rf_of f1_17 p1 39)).toInt.toNat)) hx hb hr (fun t ht hW => ⟨⟨(rf_of f1_17 p1 (40 + (rf_of f1_17 p1 39)).toInt.toNat), (ws_29, th1_4, f1_17), rfl, ⟨hT, ⟨hD_21, hR_22, hM_23⟩⟩, by rw [ht]; exact hP, by rw [hAe]; exact hD⟩, hS.F ht⟩) hS.2.2 dX11_dequeue_53
    · refine lv_iconst (v := (-1)) hx hb dX11_dequeue_20 (by decide) ?_
      exact W.iret (v := (-1)) hx hb hr (fun t ht hW => ⟨⟨(-1), (ws_9, th1_4, f), rfl, ⟨hT, ⟨(rf_dr f), hR, (rf_smr f)⟩⟩, by rw [ht]; exact hP, by rw [hAe]; exact hD⟩, hS.F ht⟩) hS.2.2 dX11_dequeue_21
  · refine lv_if_eq (tgt := 10) hx hb dX11_dequeue_5 (by decide) (fun hc => absurd hc (by decide)) (fun _ => ?_)
    refine lv_iconst (v := 0) hx hb dX11_dequeue_8 (by decide) ?_
    exact W.iret (v := 0) hx hb hr (fun t ht hW => ⟨⟨0, (ws_3, th1_4, f), rfl, ⟨hT, ⟨(rf_dr f), hR, (rf_smr f)⟩⟩, by rw [ht]; exact hP, by rw [hAe]; exact hD⟩, hS.F ht⟩) hS.2.2 dX11_dequeue_9
theorem dX11_startNext_0 : decode cX11_startNext 0 = .ok (.aload_n 0, 1) := by decide +kernel
theorem dX11_startNext_1 : decode cX11_startNext 1 = .ok (.iload_n 1, 1) := by decide +kernel
theorem dX11_startNext_2 : decode cX11_startNext 2 = .ok (.invokevirtual 344, 3) := by decide +kernel
theorem dX11_startNext_5 : decode cX11_startNext 5 = .ok (.ifCond .eq 5, 3) := by decide +kernel
theorem dX11_startNext_8 : decode cX11_startNext 8 = .ok (.iconst 0, 1) := by decide +kernel
theorem dX11_startNext_9 : decode cX11_startNext 9 = .ok (.ireturn, 1) := by decide +kernel
theorem dX11_startNext_10 : decode cX11_startNext 10 = .ok (.aload_n 0, 1) := by decide +kernel
theorem dX11_startNext_11 : decode cX11_startNext 11 = .ok (.iload_n 1, 1) := by decide +kernel
theorem dX11_startNext_12 : decode cX11_startNext 12 = .ok (.iconst 0, 1) := by decide +kernel
theorem dX11_startNext_13 : decode cX11_startNext 13 = .ok (.invokevirtual 350, 3) := by decide +kernel
theorem dX11_startNext_16 : decode cX11_startNext 16 = .ok (.ifCond .ne 15, 3) := by decide +kernel
theorem dX11_startNext_19 : decode cX11_startNext 19 = .ok (.aload_n 0, 1) := by decide +kernel
theorem dX11_startNext_20 : decode cX11_startNext 20 = .ok (.iload_n 1, 1) := by decide +kernel
theorem dX11_startNext_21 : decode cX11_startNext 21 = .ok (.iconst 3, 1) := by decide +kernel
theorem dX11_startNext_22 : decode cX11_startNext 22 = .ok (.invokevirtual 350, 3) := by decide +kernel
theorem dX11_startNext_25 : decode cX11_startNext 25 = .ok (.ifCond .ne 6, 3) := by decide +kernel
theorem dX11_startNext_28 : decode cX11_startNext 28 = .ok (.bipush (-3), 2) := by decide +kernel
theorem dX11_startNext_30 : decode cX11_startNext 30 = .ok (.ireturn, 1) := by decide +kernel
theorem dX11_startNext_31 : decode cX11_startNext 31 = .ok (.aload_n 0, 1) := by decide +kernel
theorem dX11_startNext_32 : decode cX11_startNext 32 = .ok (.iload_n 1, 1) := by decide +kernel
theorem dX11_startNext_33 : decode cX11_startNext 33 = .ok (.bipush 39, 2) := by decide +kernel
theorem dX11_startNext_35 : decode cX11_startNext 35 = .ok (.invokevirtual 209, 3) := by decide +kernel
theorem dX11_startNext_38 : decode cX11_startNext 38 = .ok (.ifCond .ne 5, 3) := by decide +kernel
theorem dX11_startNext_41 : decode cX11_startNext 41 = .ok (.iconst (-1), 1) := by decide +kernel
theorem dX11_startNext_42 : decode cX11_startNext 42 = .ok (.ireturn, 1) := by decide +kernel
theorem dX11_startNext_43 : decode cX11_startNext 43 = .ok (.aload_n 0, 1) := by decide +kernel
theorem dX11_startNext_44 : decode cX11_startNext 44 = .ok (.iload_n 1, 1) := by decide +kernel
theorem dX11_startNext_45 : decode cX11_startNext 45 = .ok (.invokevirtual 285, 3) := by decide +kernel
theorem dX11_startNext_48 : decode cX11_startNext 48 = .ok (.istore_n 2, 1) := by decide +kernel
theorem dX11_startNext_49 : decode cX11_startNext 49 = .ok (.aload_n 0, 1) := by decide +kernel
theorem dX11_startNext_50 : decode cX11_startNext 50 = .ok (.iload_n 1, 1) := by decide +kernel
theorem dX11_startNext_51 : decode cX11_startNext 51 = .ok (.iload_n 2, 1) := by decide +kernel
theorem dX11_startNext_52 : decode cX11_startNext 52 = .ok (.invokevirtual 288, 3) := by decide +kernel
theorem dX11_startNext_55 : decode cX11_startNext 55 = .ok (.iload_n 2, 1) := by decide +kernel
theorem dX11_startNext_56 : decode cX11_startNext 56 = .ok (.ireturn, 1) := by decide +kernel
set_option maxRecDepth 100000 in
set_option maxHeartbeats 4000000 in
theorem m_X11_startNext (l : Launch) (D : va_G) (ct : Nat → ClassId) (S : ty_S) (ws : va_W) (ph : va_W → Prop) (xx : Nat → Nat → Nat → Prop) (mo : Nat) (mw : Nat) (ma : Nat) (mf : Nat) (m0 : Nat) (m1 : Nat) (mu : Nat) (mv : Nat) (u0 : Nat) (u1 : Nat) (iz : Nat) (mb : Nat) (th : Int32) (mn : Int32) (mpt : Int32) (mbg : Int32) (mwr : Int32) (mwk : Int32) (mlf : Int32) (men : Int32) (f : Nat → Int32) (G : Nat → Int32) (p1 : Int32) (sz : Nat) (hT : ty_V ct S ph ws) (h_mu : S mu = some (.inr (1, 42))) (h_mv : S mv = some (.inr (1, 42))) (h_u0 : S u0 = some (.inr (1, 42))) (h_u1 : S u1 = some (.inr (1, 42))) (hph : ty_C ph xx) (hy1 : ty_y1 xx) (hy11 : ty_y0 xx 11) (hR : rf_R G (-1) f) : Met l yX11_startNext (ws_ yX11_startNext cX11_startNext 3 (some .int)) ({ frames := 3, cells := 0, slots := 0, locals := 72 } : Room) (va_Pc [.ref mo, .int p1] (cmP D ct sz ([(rf_MO mo mw ma mf m0 m1 mu mv u0 u1 iz th mb mn mpt mbg mwr mwk mlf men), (rf_RW ct 0 mw 958 f)] ++ ws))) (va_Qi (fun (r : Int32) (u : va_W × Int32 × (Nat → Int32)) => match u with | (u9, th1, f1) => ty_V ct S ph u9 ∧ rf_d (f 8) f f1 ∧ rf_R G (-1) f1) (cmB D ([(rf_MO mo mw ma mf m0 m1 mu mv u0 u1 iz th mb mn mpt mbg mwr mwk mlf men), (rf_RW ct 0 mw 958 f)] ++ ws) sz (fun (u : va_W × Int32 × (Nat → Int32)) => match u with | (u9, th1, f1) => ([(rf_MO mo mw ma mf m0 m1 mu mv u0 u1 iz th1 mb mn mpt mbg mwr mwk mlf men), (rf_RW ct 0 mw 958 f1)] ++ u9))) (va_A ([(rf_MO mo mw ma mf m0 m1 mu mv u0 u1 iz th mb mn mpt mbg mwr mwk mlf men), (rf_RW ct 0 mw 958 f)] ++ ws) sz)) 0 0 (va_A ([(rf_MO mo mw ma mf m0 m1 mu mv u0 u1 iz th mb mn mpt mbg mwr mwk mlf men), (rf_RW ct 0 mw 958 f)] ++ ws) sz) := by
  refine Met.ofW (cc := cX11_startNext) (maxL := 3) (ret := (some .int)) (by decide) rfl ?_
  intro p e s m args below meth c s₁ B hml hv
  obtain ⟨rfl, hsz, hP, hK, hD0, hX⟩ := hv
  have hx := B.exec
  have hb := B.bytes
  have hr := B.returns
  have hts := ws_all (atoms_spec (ws := ws_ yX11_startNext cX11_startNext 3 (some .int)) B.pre)
  have hown : s.vm.findClass RX11 = some m.cls := findClass_of_methodNamed B.named
  have hlocks := B.notSynchronized
  subst hsz
  have hD := hD0.self (sz := s.heap.size)
  generalize hAe : va_A ([(rf_MO mo mw ma mf m0 m1 mu mv u0 u1 iz th mb mn mpt mbg mwr mwk mlf men), (rf_RW ct 0 mw 958 f)] ++ ws) s.heap.size = A at hD hX ⊢
  have hA : ∀ q : Nat, s.heap.size ≤ q → A q := fun q h => by rw [← hAe]; exact Or.inr h
  have hS : va_S A s.heap s.heap [] := va_S.rf
  have hl := lv_entry ([.ref mo, .int p1]) (n := 3) (Nat.le_of_ble_eq_true rfl)
  rw [lg_entry_eq]
  generalize (lg_sl ([.ref mo, .int p1]) ++ List.replicate (3 - (lg_sl ([.ref mo, .int p1])).length) Slot.unset).toArray = ls at hl ⊢
  have hl : lv_has ls 3 [(0, .ref mo), (1, .int p1)] := hl
  refine lv_aload_n hx hb dX11_startNext_0 rfl (lv_at hl 0 rfl) ?_
  refine lv_iload_n hx hb dX11_startNext_1 rfl (lv_at hl 1 rfl) ?_
  refine ty_ki (wr := []) (wc := ([(rf_MO mo mw ma mf m0 m1 mu mv u0 u1 iz th mb mn mpt mbg mwr mwk mlf men), (rf_RW ct 0 mw 958 f)] ++ ws)) (va_runV (As := [.int p1]) (rest := []) ⟨hx, hb, hml, hown, hts⟩ (m_X11_noChannel l D ct S ws ph xx mo mw ma mf m0 m1 mu mv u0 u1 iz mb th mn mpt mbg mwr mwk mlf men f G (-1) p1 _ hT h_mu h_mv h_u0 h_u1 hph hy1 hR) (cm_V 1 hts kc_X11_noChannel ki_RX11 kl_RX11_344 kv_X11_noChannel kx_X11_noChannel kd_X11_noChannel ⟨Nat.le_of_ble_eq_true rfl, Nat.le_of_ble_eq_true rfl⟩) (ty_preE (wr := []) (wc := ([(rf_MO mo mw ma mf m0 m1 mu mv u0 u1 iz th mb mn mpt mbg mwr mwk mlf men), (rf_RW ct 0 mw 958 f)] ++ ws)) (ci := 11) (q0 := 0) hP hK hD hS hA hX rfl rfl) rfl rfl hl.1 rfl (lv_room (Nat.le_of_ble_eq_true rfl)) dX11_startNext_2 ⟨Nat.le_of_ble_eq_true rfl, Nat.le_of_ble_eq_true rfl⟩) hP hD hS hA (fun r_1 u H locs hw_2 hP hD hS => ?_)
  obtain ⟨ws_3, th1_4⟩ := u
  obtain ⟨hT, hp_5⟩ := hw_2
  have hp_5 : ((r_1 = 0 ∧ 0 ≤ p1.toInt ∧ p1.toInt < (G 9).toInt) ∨ r_1 = 1) := hp_5
  have hP : va_P D vwCl ([(rf_MO mo mw ma mf m0 m1 mu mv u0 u1 iz th1_4 mb mn mpt mbg mwr mwk mlf men), (rf_RW ct 0 mw 958 f)] ++ ws_3) H := hP
  have hD : va_D A ([(rf_MO mo mw ma mf m0 m1 mu mv u0 u1 iz th1_4 mb mn mpt mbg mwr mwk mlf men), (rf_RW ct 0 mw 958 f)] ++ ws_3) := hD
  rcases hp_5 with ⟨rfl, hz_6⟩ | rfl
  · refine lv_if_eq (tgt := 10) hx hb dX11_startNext_5 (by decide) (fun _ => ?_) (fun hc => absurd (by decide) hc)
    refine lv_aload_n hx hb dX11_startNext_10 rfl (lv_at hl 0 rfl) ?_
    refine lv_iload_n hx hb dX11_startNext_11 rfl (lv_at hl 1 rfl) ?_
    refine lv_iconst (v := 0) hx hb dX11_startNext_12 (by decide) ?_
    refine ty_ki (wr := []) (wc := ([(rf_MO mo mw ma mf m0 m1 mu mv u0 u1 iz th1_4 mb mn mpt mbg mwr mwk mlf men), (rf_RW ct 0 mw 958 f)] ++ ws_3)) (va_runV (As := [.int p1, .int 0]) (rest := []) ⟨hx, hb, hml, hown, hts⟩ (m_X11_isIn l D ct S ws_3 ph xx mo mw ma mf m0 m1 mu mv u0 u1 iz mb th1_4 mn mpt mbg mwr mwk mlf men f G (-1) p1 (0 : Int32) _ hT h_mu h_mv h_u0 h_u1 hph hy1 hR hz_6) (cm_V 2 hts kc_X11_isIn ki_RX11 kl_RX11_350 kv_X11_isIn kx_X11_isIn kd_X11_isIn ⟨Nat.le_of_ble_eq_true rfl, Nat.le_of_ble_eq_true rfl⟩) (ty_preE (wr := []) (wc := ([(rf_MO mo mw ma mf m0 m1 mu mv u0 u1 iz th1_4 mb mn mpt mbg mwr mwk mlf men), (rf_RW ct 0 mw 958 f)] ++ ws_3)) (ci := 11) (q0 := 0) hP hK hD hS hA hX rfl rfl) rfl rfl hl.1 rfl (lv_room (Nat.le_of_ble_eq_true rfl)) dX11_startNext_13 ⟨Nat.le_of_ble_eq_true rfl, Nat.le_of_ble_eq_true rfl⟩) hP hD hS hA (fun r_7 u H locs hw_8 hP hD hS => ?_)
    obtain ⟨ws_9, rfl⟩ : ∃ z, z = u := ⟨_, rfl⟩
    obtain ⟨hT, hp_10⟩ := hw_8
    have hp_10 : ((r_7 = 0 ∧ ¬ rf_of f p1 0 = (0 : Int32)) ∨ (r_7 = 1 ∧ rf_of f p1 0 = (0 : Int32))) := hp_10
    have hP : va_P D vwCl ([(rf_MO mo mw ma mf m0 m1 mu mv u0 u1 iz th1_4 mb mn mpt mbg mwr mwk mlf men), (rf_RW ct 0 mw 958 f)] ++ ws_9) H := hP
    have hD : va_D A ([(rf_MO mo mw ma mf m0 m1 mu mv u0 u1 iz th1_4 mb mn mpt mbg mwr mwk mlf men), (rf_RW ct 0 mw 958 f)] ++ ws_9) := hD
    rcases hp_10 with ⟨rfl, hz_11⟩ | ⟨rfl, hz_12⟩
    · refine lv_if_ne (tgt := 31) hx hb dX11_startNext_16 (by decide) (fun hc => absurd (by decide) hc) (fun _ => ?_)
      refine lv_aload_n hx hb dX11_startNext_19 rfl (lv_at hl 0 rfl) ?_
      refine lv_iload_n hx hb dX11_startNext_20 rfl (lv_at hl 1 rfl) ?_
      refine lv_iconst (v := 3) hx hb dX11_startNext_21 (by decide) ?_
      refine ty_ki (wr := []) (wc := ([(rf_MO mo mw ma mf m0 m1 mu mv u0 u1 iz th1_4 mb mn mpt mbg mwr mwk mlf men), (rf_RW ct 0 mw 958 f)] ++ ws_9)) (va_runV (As := [.int p1, .int 3]) (rest := []) ⟨hx, hb, hml, hown, hts⟩ (m_X11_isIn l D ct S ws_9 ph xx mo mw ma mf m0 m1 mu mv u0 u1 iz mb th1_4 mn mpt mbg mwr mwk mlf men f G (-1) p1 (3 : Int32) _ hT h_mu h_mv h_u0 h_u1 hph hy1 hR hz_6) (cm_V 2 hts kc_X11_isIn ki_RX11 kl_RX11_350 kv_X11_isIn kx_X11_isIn kd_X11_isIn ⟨Nat.le_of_ble_eq_true rfl, Nat.le_of_ble_eq_true rfl⟩) (ty_preE (wr := []) (wc := ([(rf_MO mo mw ma mf m0 m1 mu mv u0 u1 iz th1_4 mb mn mpt mbg mwr mwk mlf men), (rf_RW ct 0 mw 958 f)] ++ ws_9)) (ci := 11) (q0 := 0) hP hK hD hS hA hX rfl rfl) rfl rfl hl.1 rfl (lv_room (Nat.le_of_ble_eq_true rfl)) dX11_startNext_22 ⟨Nat.le_of_ble_eq_true rfl, Nat.le_of_ble_eq_true rfl⟩) hP hD hS hA (fun r_13 u H locs hw_14 hP hD hS => ?_)
      obtain ⟨ws_15, rfl⟩ : ∃ z, z = u := ⟨_, rfl⟩
      obtain ⟨hT, hp_16⟩ := hw_14
      have hp_16 : ((r_13 = 0 ∧ ¬ rf_of f p1 0 = (3 : Int32)) ∨ (r_13 = 1 ∧ rf_of f p1 0 = (3 : Int32))) := hp_16
      have hP : va_P D vwCl ([(rf_MO mo mw ma mf m0 m1 mu mv u0 u1 iz th1_4 mb mn mpt mbg mwr mwk mlf men), (rf_RW ct 0 mw 958 f)] ++ ws_15) H := hP
      have hD : va_D A ([(rf_MO mo mw ma mf m0 m1 mu mv u0 u1 iz th1_4 mb mn mpt mbg mwr mwk mlf men), (rf_RW ct 0 mw 958 f)] ++ ws_15) := hD
      rcases hp_16 with ⟨rfl, hz_17⟩ | ⟨rfl, hz_18⟩
      · refine lv_if_ne (tgt := 31) hx hb dX11_startNext_25 (by decide) (fun hc => absurd (by decide) hc) (fun _ => ?_)
        refine lv_bipush (v := (-3)) hx hb dX11_startNext_28 (by decide) ?_
        exact W.iret (v := (-3)) hx hb hr (fun t ht hW => ⟨⟨(-3), (ws_15, th1_4, f), rfl, ⟨hT, ⟨(rf_dr f), hR⟩⟩, by rw [ht]; exact hP, by rw [hAe]; exact hD⟩, hS.F ht⟩) hS.2.2 dX11_startNext_30
      · refine lv_if_ne (tgt := 31) hx hb dX11_startNext_25 (by decide) (fun _ => ?_) (fun hc => absurd hc (by decide))
        refine lv_aload_n hx hb dX11_startNext_31 rfl (lv_at hl 0 rfl) ?_
        refine lv_iload_n hx hb dX11_startNext_32 rfl (lv_at hl 1 rfl) ?_
        refine lv_bipush (v := 39) hx hb dX11_startNext_33 (by decide) ?_
        refine ty_ki (wr := []) (wc := ([(rf_MO mo mw ma mf m0 m1 mu mv u0 u1 iz th1_4 mb mn mpt mbg mwr mwk mlf men), (rf_RW ct 0 mw 958 f)] ++ ws_15)) (va_runV (As := [.int p1, .int 39]) (rest := []) ⟨hx, hb, hml, hown, hts⟩ (m_of_39 l D ct S ws_15 ph xx mo mw ma mf m0 m1 mu mv u0 u1 iz mb th1_4 mn mpt mbg mwr mwk mlf men f G (-1) p1 _ hT h_mu h_mv h_u0 h_u1 hph hy1 hR hz_6) (cm_V 2 hts kc_X11_of ki_RX11 kl_RX11_209 kv_X11_of kx_X11_of kd_X11_of ⟨Nat.le_of_ble_eq_true rfl, Nat.le_of_ble_eq_true rfl⟩) (ty_preE (wr := []) (wc := ([(rf_MO mo mw ma mf m0 m1 mu mv u0 u1 iz th1_4 mb mn mpt mbg mwr mwk mlf men), (rf_RW ct 0 mw 958 f)] ++ ws_15)) (ci := 11) (q0 := 0) hP hK hD hS hA hX rfl rfl) rfl rfl hl.1 rfl (lv_room (Nat.le_of_ble_eq_true rfl)) dX11_startNext_35 ⟨Nat.le_of_ble_eq_true rfl, Nat.le_of_ble_eq_true rfl⟩) hP hD hS hA (fun r_19 u H locs hw_20 hP hD hS => ?_)
        obtain ⟨ws_21, rfl⟩ : ∃ z, z = u := ⟨_, rfl⟩
        obtain ⟨hT, rfl⟩ := hw_20
        have hP : va_P D vwCl ([(rf_MO mo mw ma mf m0 m1 mu mv u0 u1 iz th1_4 mb mn mpt mbg mwr mwk mlf men), (rf_RW ct 0 mw 958 f)] ++ ws_21) H := hP
        have hD : va_D A ([(rf_MO mo mw ma mf m0 m1 mu mv u0 u1 iz th1_4 mb mn mpt mbg mwr mwk mlf men), (rf_RW ct 0 mw 958 f)] ++ ws_21) := hD
        refine lv_if_ne (tgt := 43) hx hb dX11_startNext_38 (by decide) (fun hc_22 => ?_) (fun hc_22 => ?_)
        · refine lv_aload_n hx hb dX11_startNext_43 rfl (lv_at hl 0 rfl) ?_
          refine lv_iload_n hx hb dX11_startNext_44 rfl (lv_at hl 1 rfl) ?_
          refine ty_ki (wr := []) (wc := ([(rf_MO mo mw ma mf m0 m1 mu mv u0 u1 iz th1_4 mb mn mpt mbg mwr mwk mlf men), (rf_RW ct 0 mw 958 f)] ++ ws_21)) (va_runV (As := [.int p1]) (rest := []) ⟨hx, hb, hml, hown, hts⟩ (m_X11_leavesQueue l D ct S ws_21 ph xx mo mw ma mf m0 m1 mu mv u0 u1 iz mb th1_4 mn mpt mbg mwr mwk mlf men f G (-1) p1 _ hT h_mu h_mv h_u0 h_u1 hph hy1 hR hz_6 (rf_n0 hc_22 (rf_qk hR hz_6).1.1)) (cm_V 1 hts kc_X11_leavesQueue ki_RX11 kl_RX11_285 kv_X11_leavesQueue kx_X11_leavesQueue kd_X11_leavesQueue ⟨Nat.le_of_ble_eq_true rfl, Nat.le_of_ble_eq_true rfl⟩) (ty_preE (wr := []) (wc := ([(rf_MO mo mw ma mf m0 m1 mu mv u0 u1 iz th1_4 mb mn mpt mbg mwr mwk mlf men), (rf_RW ct 0 mw 958 f)] ++ ws_21)) (ci := 11) (q0 := 0) hP hK hD hS hA hX rfl rfl) rfl rfl hl.1 rfl (lv_room (Nat.le_of_ble_eq_true rfl)) dX11_startNext_45 ⟨Nat.le_of_ble_eq_true rfl, Nat.le_of_ble_eq_true rfl⟩) hP hD hS hA (fun r_23 u H locs hw_24 hP hD hS => ?_)
          obtain ⟨ws_25, f1_26⟩ := u
          obtain ⟨hT, hp_27⟩ := hw_24
          have hp_27 : rf_d (f 8) f f1_26 ∧ rf_R G (-1) f1_26 ∧ rf_sm f f1_26 ∧ 0 ≤ r_23.toInt ∧ r_23.toInt < (G 10).toInt := hp_27
          obtain ⟨hd_28, hq_29⟩ := hp_27
          have hD_30 := rf_dt (rf_dr f) hd_28
          have hR_31 := hq_29.1
          have hM_32 := rf_smt (rf_smr f) hq_29.2.1
          have hP : va_P D vwCl ([(rf_MO mo mw ma mf m0 m1 mu mv u0 u1 iz th1_4 mb mn mpt mbg mwr mwk mlf men), (rf_RW ct 0 mw 958 f1_26)] ++ ws_25) H := hP
          have hD : va_D A ([(rf_MO mo mw ma mf m0 m1 mu mv u0 u1 iz th1_4 mb mn mpt mbg mwr mwk mlf men), (rf_RW ct 0 mw 958 f1_26)] ++ ws_25) := hD
          refine lv_istore_n (lv' := [(2, .int r_23), (0, .ref mo), (1, .int p1)]) hx hb dX11_startNext_48 rfl hl (by decide) rfl (fun ls hl => ?_)
          refine lv_aload_n hx hb dX11_startNext_49 rfl (lv_at hl 1 rfl) ?_
          refine lv_iload_n hx hb dX11_startNext_50 rfl (lv_at hl 2 rfl) ?_
          refine lv_iload_n hx hb dX11_startNext_51 rfl (lv_at hl 0 rfl) ?_
          refine ty_kv (wr := []) (wc := ([(rf_MO mo mw ma mf m0 m1 mu mv u0 u1 iz th1_4 mb mn mpt mbg mwr mwk mlf men), (rf_RW ct 0 mw 958 f1_26)] ++ ws_25)) (va_runV (As := [.int p1, .int r_23]) (rest := []) ⟨hx, hb, hml, hown, hts⟩ (m_X11_startsOn l D ct S ws_25 ph xx mo mw ma mf m0 m1 mu mv u0 u1 iz mb th1_4 mn mpt mbg mwr mwk mlf men f1_26 G (-1) p1 r_23 _ hT h_mu h_mv h_u0 h_u1 hph hy1 hy11 hR_31 hz_6 (Or.inl rfl) hq_29.2.2) (cm_V 2 hts kc_X11_startsOn ki_RX11 kl_RX11_288 kv_X11_startsOn kx_X11_startsOn kd_X11_startsOn ⟨Nat.le_of_ble_eq_true rfl, Nat.le_of_ble_eq_true rfl⟩) (ty_preE (wr := []) (wc := ([(rf_MO mo mw ma mf m0 m1 mu mv u0 u1 iz th1_4 mb mn mpt mbg mwr mwk mlf men), (rf_RW ct 0 mw 958 f1_26)] ++ ws_25)) (ci := 11) (q0 := 0) hP hK hD hS hA hX rfl rfl) rfl rfl hl.1 rfl (lv_room (Nat.le_of_ble_eq_true rfl)) dX11_startNext_52 ⟨Nat.le_of_ble_eq_true rfl, Nat.le_of_ble_eq_true rfl⟩) hP hD hS hA (fun u H locs hw_34 hP hD hS => ?_)
          obtain ⟨ws_35, f1_36⟩ := u
          obtain ⟨hT, hp_37⟩ := hw_34
          have hp_37 : rf_d (f1_26 8) f1_26 f1_36 ∧ rf_R G (-1) f1_36 := hp_37
          obtain ⟨hd_38, hq_39⟩ := hp_37
          have hD_40 := rf_dt hD_30 hd_38
          have hR_41 := hq_39
          have hP : va_P D vwCl ([(rf_MO mo mw ma mf m0 m1 mu mv u0 u1 iz th1_4 mb mn mpt mbg mwr mwk mlf men), (rf_RW ct 0 mw 958 f1_36)] ++ ws_35) H := hP
          have hD : va_D A ([(rf_MO mo mw ma mf m0 m1 mu mv u0 u1 iz th1_4 mb mn mpt mbg mwr mwk mlf men), (rf_RW ct 0 mw 958 f1_36)] ++ ws_35) := hD
          refine lv_iload_n hx hb dX11_startNext_55 rfl (lv_at hl 0 rfl) ?_
          exact W.iret (v := r_23) hx hb hr (fun t ht hW => ⟨⟨r_23, (ws_35, th1_4, f1_36), rfl, ⟨hT, ⟨hD_40, hR_41⟩⟩, by rw [ht]; exact hP, by rw [hAe]; exact hD⟩, hS.F ht⟩) hS.2.2 dX11_startNext_56
        · refine lv_iconst (v := (-1)) hx hb dX11_startNext_41 (by decide) ?_
          exact W.iret (v := (-1)) hx hb hr (fun t ht hW => ⟨⟨(-1), (ws_21, th1_4, f), rfl, ⟨hT, ⟨(rf_dr f), hR⟩⟩, by rw [ht]; exact hP, by rw [hAe]; exact hD⟩, hS.F ht⟩) hS.2.2 dX11_startNext_42
    · refine lv_if_ne (tgt := 31) hx hb dX11_startNext_16 (by decide) (fun _ => ?_) (fun hc => absurd hc (by decide))
      refine lv_aload_n hx hb dX11_startNext_31 rfl (lv_at hl 0 rfl) ?_
      refine lv_iload_n hx hb dX11_startNext_32 rfl (lv_at hl 1 rfl) ?_
      refine lv_bipush (v := 39) hx hb dX11_startNext_33 (by decide) ?_
      refine ty_ki (wr := []) (wc := ([(rf_MO mo mw ma mf m0 m1 mu mv u0 u1 iz th1_4 mb mn mpt mbg mwr mwk mlf men), (rf_RW ct 0 mw 958 f)] ++ ws_9)) (va_runV (As := [.int p1, .int 39]) (rest := []) ⟨hx, hb, hml, hown, hts⟩ (m_of_39 l D ct S ws_9 ph xx mo mw ma mf m0 m1 mu mv u0 u1 iz mb th1_4 mn mpt mbg mwr mwk mlf men f G (-1) p1 _ hT h_mu h_mv h_u0 h_u1 hph hy1 hR hz_6) (cm_V 2 hts kc_X11_of ki_RX11 kl_RX11_209 kv_X11_of kx_X11_of kd_X11_of ⟨Nat.le_of_ble_eq_true rfl, Nat.le_of_ble_eq_true rfl⟩) (ty_preE (wr := []) (wc := ([(rf_MO mo mw ma mf m0 m1 mu mv u0 u1 iz th1_4 mb mn mpt mbg mwr mwk mlf men), (rf_RW ct 0 mw 958 f)] ++ ws_9)) (ci := 11) (q0 := 0) hP hK hD hS hA hX rfl rfl) rfl rfl hl.1 rfl (lv_room (Nat.le_of_ble_eq_true rfl)) dX11_startNext_35 ⟨Nat.le_of_ble_eq_true rfl, Nat.le_of_ble_eq_true rfl⟩) hP hD hS hA (fun r_43 u H locs hw_44 hP hD hS => ?_)
      obtain ⟨ws_45, rfl⟩ : ∃ z, z = u := ⟨_, rfl⟩
      obtain ⟨hT, rfl⟩ := hw_44
      have hP : va_P D vwCl ([(rf_MO mo mw ma mf m0 m1 mu mv u0 u1 iz th1_4 mb mn mpt mbg mwr mwk mlf men), (rf_RW ct 0 mw 958 f)] ++ ws_45) H := hP
      have hD : va_D A ([(rf_MO mo mw ma mf m0 m1 mu mv u0 u1 iz th1_4 mb mn mpt mbg mwr mwk mlf men), (rf_RW ct 0 mw 958 f)] ++ ws_45) := hD
      refine lv_if_ne (tgt := 43) hx hb dX11_startNext_38 (by decide) (fun hc_46 => ?_) (fun hc_46 => ?_)
      · refine lv_aload_n hx hb dX11_startNext_43 rfl (lv_at hl 0 rfl) ?_
        refine lv_iload_n hx hb dX11_startNext_44 rfl (lv_at hl 1 rfl) ?_
        refine ty_ki (wr := []) (wc := ([(rf_MO mo mw ma mf m0 m1 mu mv u0 u1 iz th1_4 mb mn mpt mbg mwr mwk mlf men), (rf_RW ct 0 mw 958 f)] ++ ws_45)) (va_runV (As := [.int p1]) (rest := []) ⟨hx, hb, hml, hown, hts⟩ (m_X11_leavesQueue l D ct S ws_45 ph xx mo mw ma mf m0 m1 mu mv u0 u1 iz mb th1_4 mn mpt mbg mwr mwk mlf men f G (-1) p1 _ hT h_mu h_mv h_u0 h_u1 hph hy1 hR hz_6 (rf_n0 hc_46 (rf_qk hR hz_6).1.1)) (cm_V 1 hts kc_X11_leavesQueue ki_RX11 kl_RX11_285 kv_X11_leavesQueue kx_X11_leavesQueue kd_X11_leavesQueue ⟨Nat.le_of_ble_eq_true rfl, Nat.le_of_ble_eq_true rfl⟩) (ty_preE (wr := []) (wc := ([(rf_MO mo mw ma mf m0 m1 mu mv u0 u1 iz th1_4 mb mn mpt mbg mwr mwk mlf men), (rf_RW ct 0 mw 958 f)] ++ ws_45)) (ci := 11) (q0 := 0) hP hK hD hS hA hX rfl rfl) rfl rfl hl.1 rfl (lv_room (Nat.le_of_ble_eq_true rfl)) dX11_startNext_45 ⟨Nat.le_of_ble_eq_true rfl, Nat.le_of_ble_eq_true rfl⟩) hP hD hS hA (fun r_47 u H locs hw_48 hP hD hS => ?_)
        obtain ⟨ws_49, f1_50⟩ := u
        obtain ⟨hT, hp_51⟩ := hw_48
        have hp_51 : rf_d (f 8) f f1_50 ∧ rf_R G (-1) f1_50 ∧ rf_sm f f1_50 ∧ 0 ≤ r_47.toInt ∧ r_47.toInt < (G 10).toInt := hp_51
        obtain ⟨hd_52, hq_53⟩ := hp_51
        have hD_54 := rf_dt (rf_dr f) hd_52
        have hR_55 := hq_53.1
        have hM_56 := rf_smt (rf_smr f) hq_53.2.1
        have hP : va_P D vwCl ([(rf_MO mo mw ma mf m0 m1 mu mv u0 u1 iz th1_4 mb mn mpt mbg mwr mwk mlf men), (rf_RW ct 0 mw 958 f1_50)] ++ ws_49) H := hP
        have hD : va_D A ([(rf_MO mo mw ma mf m0 m1 mu mv u0 u1 iz th1_4 mb mn mpt mbg mwr mwk mlf men), (rf_RW ct 0 mw 958 f1_50)] ++ ws_49) := hD
        refine lv_istore_n (lv' := [(2, .int r_47), (0, .ref mo), (1, .int p1)]) hx hb dX11_startNext_48 rfl hl (by decide) rfl (fun ls hl => ?_)
        refine lv_aload_n hx hb dX11_startNext_49 rfl (lv_at hl 1 rfl) ?_
        refine lv_iload_n hx hb dX11_startNext_50 rfl (lv_at hl 2 rfl) ?_
        refine lv_iload_n hx hb dX11_startNext_51 rfl (lv_at hl 0 rfl) ?_
        refine ty_kv (wr := []) (wc := ([(rf_MO mo mw ma mf m0 m1 mu mv u0 u1 iz th1_4 mb mn mpt mbg mwr mwk mlf men), (rf_RW ct 0 mw 958 f1_50)] ++ ws_49)) (va_runV (As := [.int p1, .int r_47]) (rest := []) ⟨hx, hb, hml, hown, hts⟩ (m_X11_startsOn l D ct S ws_49 ph xx mo mw ma mf m0 m1 mu mv u0 u1 iz mb th1_4 mn mpt mbg mwr mwk mlf men f1_50 G (-1) p1 r_47 _ hT h_mu h_mv h_u0 h_u1 hph hy1 hy11 hR_55 hz_6 (Or.inl rfl) hq_53.2.2) (cm_V 2 hts kc_X11_startsOn ki_RX11 kl_RX11_288 kv_X11_startsOn kx_X11_startsOn kd_X11_startsOn ⟨Nat.le_of_ble_eq_true rfl, Nat.le_of_ble_eq_true rfl⟩) (ty_preE (wr := []) (wc := ([(rf_MO mo mw ma mf m0 m1 mu mv u0 u1 iz th1_4 mb mn mpt mbg mwr mwk mlf men), (rf_RW ct 0 mw 958 f1_50)] ++ ws_49)) (ci := 11) (q0 := 0) hP hK hD hS hA hX rfl rfl) rfl rfl hl.1 rfl (lv_room (Nat.le_of_ble_eq_true rfl)) dX11_startNext_52 ⟨Nat.le_of_ble_eq_true rfl, Nat.le_of_ble_eq_true rfl⟩) hP hD hS hA (fun u H locs hw_58 hP hD hS => ?_)
        obtain ⟨ws_59, f1_60⟩ := u
        obtain ⟨hT, hp_61⟩ := hw_58
        have hp_61 : rf_d (f1_50 8) f1_50 f1_60 ∧ rf_R G (-1) f1_60 := hp_61
        obtain ⟨hd_62, hq_63⟩ := hp_61
        have hD_64 := rf_dt hD_54 hd_62
        have hR_65 := hq_63
        have hP : va_P D vwCl ([(rf_MO mo mw ma mf m0 m1 mu mv u0 u1 iz th1_4 mb mn mpt mbg mwr mwk mlf men), (rf_RW ct 0 mw 958 f1_60)] ++ ws_59) H := hP
        have hD : va_D A ([(rf_MO mo mw ma mf m0 m1 mu mv u0 u1 iz th1_4 mb mn mpt mbg mwr mwk mlf men), (rf_RW ct 0 mw 958 f1_60)] ++ ws_59) := hD
        refine lv_iload_n hx hb dX11_startNext_55 rfl (lv_at hl 0 rfl) ?_
        exact W.iret (v := r_47) hx hb hr (fun t ht hW => ⟨⟨r_47, (ws_59, th1_4, f1_60), rfl, ⟨hT, ⟨hD_64, hR_65⟩⟩, by rw [ht]; exact hP, by rw [hAe]; exact hD⟩, hS.F ht⟩) hS.2.2 dX11_startNext_56
      · refine lv_iconst (v := (-1)) hx hb dX11_startNext_41 (by decide) ?_
        exact W.iret (v := (-1)) hx hb hr (fun t ht hW => ⟨⟨(-1), (ws_45, th1_4, f), rfl, ⟨hT, ⟨(rf_dr f), hR⟩⟩, by rw [ht]; exact hP, by rw [hAe]; exact hD⟩, hS.F ht⟩) hS.2.2 dX11_startNext_42
  · refine lv_if_eq (tgt := 10) hx hb dX11_startNext_5 (by decide) (fun hc => absurd hc (by decide)) (fun _ => ?_)
    refine lv_iconst (v := 0) hx hb dX11_startNext_8 (by decide) ?_
    exact W.iret (v := 0) hx hb hr (fun t ht hW => ⟨⟨0, (ws_3, th1_4, f), rfl, ⟨hT, ⟨(rf_dr f), hR⟩⟩, by rw [ht]; exact hP, by rw [hAe]; exact hD⟩, hS.F ht⟩) hS.2.2 dX11_startNext_9
theorem dX11_queueAt_0 : decode cX11_queueAt 0 = .ok (.aload_n 0, 1) := by decide +kernel
theorem dX11_queueAt_1 : decode cX11_queueAt 1 = .ok (.iload_n 1, 1) := by decide +kernel
theorem dX11_queueAt_2 : decode cX11_queueAt 2 = .ok (.invokevirtual 344, 3) := by decide +kernel
theorem dX11_queueAt_5 : decode cX11_queueAt 5 = .ok (.ifCond .eq 5, 3) := by decide +kernel
theorem dX11_queueAt_8 : decode cX11_queueAt 8 = .ok (.iconst 0, 1) := by decide +kernel
theorem dX11_queueAt_9 : decode cX11_queueAt 9 = .ok (.ireturn, 1) := by decide +kernel
theorem dX11_queueAt_10 : decode cX11_queueAt 10 = .ok (.iload_n 2, 1) := by decide +kernel
theorem dX11_queueAt_11 : decode cX11_queueAt 11 = .ok (.i2l, 1) := by decide +kernel
theorem dX11_queueAt_12 : decode cX11_queueAt 12 = .ok (.lconst 0, 1) := by decide +kernel
theorem dX11_queueAt_13 : decode cX11_queueAt 13 = .ok (.aload_n 0, 1) := by decide +kernel
theorem dX11_queueAt_14 : decode cX11_queueAt 14 = .ok (.iload_n 1, 1) := by decide +kernel
theorem dX11_queueAt_15 : decode cX11_queueAt 15 = .ok (.bipush 39, 2) := by decide +kernel
theorem dX11_queueAt_17 : decode cX11_queueAt 17 = .ok (.invokevirtual 209, 3) := by decide +kernel
theorem dX11_queueAt_20 : decode cX11_queueAt 20 = .ok (.iconst 1, 1) := by decide +kernel
theorem dX11_queueAt_21 : decode cX11_queueAt 21 = .ok (.isub, 1) := by decide +kernel
theorem dX11_queueAt_22 : decode cX11_queueAt 22 = .ok (.i2l, 1) := by decide +kernel
theorem dX11_queueAt_23 : decode cX11_queueAt 23 = .ok (.invokestatic 70, 3) := by decide +kernel
theorem dX11_queueAt_26 : decode cX11_queueAt 26 = .ok (.ifCond .eq 15, 3) := by decide +kernel
theorem dX11_queueAt_29 : decode cX11_queueAt 29 = .ok (.aload_n 0, 1) := by decide +kernel
theorem dX11_queueAt_30 : decode cX11_queueAt 30 = .ok (.iload_n 1, 1) := by decide +kernel
theorem dX11_queueAt_31 : decode cX11_queueAt 31 = .ok (.bipush 40, 2) := by decide +kernel
theorem dX11_queueAt_33 : decode cX11_queueAt 33 = .ok (.iload_n 2, 1) := by decide +kernel
theorem dX11_queueAt_34 : decode cX11_queueAt 34 = .ok (.iadd, 1) := by decide +kernel
theorem dX11_queueAt_35 : decode cX11_queueAt 35 = .ok (.invokevirtual 209, 3) := by decide +kernel
theorem dX11_queueAt_38 : decode cX11_queueAt 38 = .ok (.goto 4, 3) := by decide +kernel
theorem dX11_queueAt_41 : decode cX11_queueAt 41 = .ok (.iconst (-1), 1) := by decide +kernel
theorem dX11_queueAt_42 : decode cX11_queueAt 42 = .ok (.ireturn, 1) := by decide +kernel
set_option maxRecDepth 100000 in
set_option maxHeartbeats 4000000 in
theorem m_X11_queueAt (l : Launch) (D : va_G) (ct : Nat → ClassId) (S : ty_S) (ws : va_W) (ph : va_W → Prop) (xx : Nat → Nat → Nat → Prop) (mo : Nat) (mw : Nat) (ma : Nat) (mf : Nat) (m0 : Nat) (m1 : Nat) (mu : Nat) (mv : Nat) (u0 : Nat) (u1 : Nat) (iz : Nat) (mb : Nat) (th : Int32) (mn : Int32) (mpt : Int32) (mbg : Int32) (mwr : Int32) (mwk : Int32) (mlf : Int32) (men : Int32) (f : Nat → Int32) (G : Nat → Int32) (cx : Int) (p1 : Int32) (p2 : Int32) (sz : Nat) (hT : ty_V ct S ph ws) (h_mu : S mu = some (.inr (1, 42))) (h_mv : S mv = some (.inr (1, 42))) (h_u0 : S u0 = some (.inr (1, 42))) (h_u1 : S u1 = some (.inr (1, 42))) (hph : ty_C ph xx) (hy1 : ty_y1 xx) (hR : rf_R G cx f) : Met l yX11_queueAt (ws_ yX11_queueAt cX11_queueAt 3 (some .int)) ({ frames := 2, cells := 0, slots := 0, locals := 46 } : Room) (va_Pc [.ref mo, .int p1, .int p2] (cmP D ct sz ([(rf_MO mo mw ma mf m0 m1 mu mv u0 u1 iz th mb mn mpt mbg mwr mwk mlf men), (rf_RW ct 0 mw 958 f)] ++ ws))) (va_Qi (fun (r : Int32) (u : va_W × Int32) => match u with | (u9, th1) => ty_V ct S ph u9) (cmB D ([(rf_MO mo mw ma mf m0 m1 mu mv u0 u1 iz th mb mn mpt mbg mwr mwk mlf men), (rf_RW ct 0 mw 958 f)] ++ ws) sz (fun (u : va_W × Int32) => match u with | (u9, th1) => ([(rf_MO mo mw ma mf m0 m1 mu mv u0 u1 iz th1 mb mn mpt mbg mwr mwk mlf men), (rf_RW ct 0 mw 958 f)] ++ u9))) (va_A ([(rf_MO mo mw ma mf m0 m1 mu mv u0 u1 iz th mb mn mpt mbg mwr mwk mlf men), (rf_RW ct 0 mw 958 f)] ++ ws) sz)) 0 0 (va_A ([(rf_MO mo mw ma mf m0 m1 mu mv u0 u1 iz th mb mn mpt mbg mwr mwk mlf men), (rf_RW ct 0 mw 958 f)] ++ ws) sz) := by
  refine Met.ofW (cc := cX11_queueAt) (maxL := 3) (ret := (some .int)) (by decide) rfl ?_
  intro p e s m args below meth c s₁ B hml hv
  obtain ⟨rfl, hsz, hP, hK, hD0, hX⟩ := hv
  have hx := B.exec
  have hb := B.bytes
  have hr := B.returns
  have hts := ws_all (atoms_spec (ws := ws_ yX11_queueAt cX11_queueAt 3 (some .int)) B.pre)
  have hown : s.vm.findClass RX11 = some m.cls := findClass_of_methodNamed B.named
  have hlocks := B.notSynchronized
  subst hsz
  have hD := hD0.self (sz := s.heap.size)
  generalize hAe : va_A ([(rf_MO mo mw ma mf m0 m1 mu mv u0 u1 iz th mb mn mpt mbg mwr mwk mlf men), (rf_RW ct 0 mw 958 f)] ++ ws) s.heap.size = A at hD hX ⊢
  have hA : ∀ q : Nat, s.heap.size ≤ q → A q := fun q h => by rw [← hAe]; exact Or.inr h
  have hS : va_S A s.heap s.heap [] := va_S.rf
  have hl := lv_entry ([.ref mo, .int p1, .int p2]) (n := 3) (Nat.le_of_ble_eq_true rfl)
  rw [lg_entry_eq]
  generalize (lg_sl ([.ref mo, .int p1, .int p2]) ++ List.replicate (3 - (lg_sl ([.ref mo, .int p1, .int p2])).length) Slot.unset).toArray = ls at hl ⊢
  have hl : lv_has ls 3 [(0, .ref mo), (1, .int p1), (2, .int p2)] := hl
  refine lv_aload_n hx hb dX11_queueAt_0 rfl (lv_at hl 0 rfl) ?_
  refine lv_iload_n hx hb dX11_queueAt_1 rfl (lv_at hl 1 rfl) ?_
  refine ty_ki (wr := []) (wc := ([(rf_MO mo mw ma mf m0 m1 mu mv u0 u1 iz th mb mn mpt mbg mwr mwk mlf men), (rf_RW ct 0 mw 958 f)] ++ ws)) (va_runV (As := [.int p1]) (rest := []) ⟨hx, hb, hml, hown, hts⟩ (m_X11_noChannel l D ct S ws ph xx mo mw ma mf m0 m1 mu mv u0 u1 iz mb th mn mpt mbg mwr mwk mlf men f G cx p1 _ hT h_mu h_mv h_u0 h_u1 hph hy1 hR) (cm_V 1 hts kc_X11_noChannel ki_RX11 kl_RX11_344 kv_X11_noChannel kx_X11_noChannel kd_X11_noChannel ⟨Nat.le_of_ble_eq_true rfl, Nat.le_of_ble_eq_true rfl⟩) (ty_preE (wr := []) (wc := ([(rf_MO mo mw ma mf m0 m1 mu mv u0 u1 iz th mb mn mpt mbg mwr mwk mlf men), (rf_RW ct 0 mw 958 f)] ++ ws)) (ci := 11) (q0 := 0) hP hK hD hS hA hX rfl rfl) rfl rfl hl.1 rfl (lv_room (Nat.le_of_ble_eq_true rfl)) dX11_queueAt_2 ⟨Nat.le_of_ble_eq_true rfl, Nat.le_of_ble_eq_true rfl⟩) hP hD hS hA (fun r_1 u H locs hw_2 hP hD hS => ?_)
  obtain ⟨ws_3, th1_4⟩ := u
  obtain ⟨hT, hp_5⟩ := hw_2
  have hp_5 : ((r_1 = 0 ∧ 0 ≤ p1.toInt ∧ p1.toInt < (G 9).toInt) ∨ r_1 = 1) := hp_5
  have hP : va_P D vwCl ([(rf_MO mo mw ma mf m0 m1 mu mv u0 u1 iz th1_4 mb mn mpt mbg mwr mwk mlf men), (rf_RW ct 0 mw 958 f)] ++ ws_3) H := hP
  have hD : va_D A ([(rf_MO mo mw ma mf m0 m1 mu mv u0 u1 iz th1_4 mb mn mpt mbg mwr mwk mlf men), (rf_RW ct 0 mw 958 f)] ++ ws_3) := hD
  rcases hp_5 with ⟨rfl, hz_6⟩ | rfl
  · refine lv_if_eq (tgt := 10) hx hb dX11_queueAt_5 (by decide) (fun _ => ?_) (fun hc => absurd (by decide) hc)
    refine lv_iload_n hx hb dX11_queueAt_10 rfl (lv_at hl 2 rfl) ?_
    refine lv_i2l hx hb dX11_queueAt_11 rfl ?_
    refine lv_lconst (v := 0) hx hb dX11_queueAt_12 (by decide) ?_
    refine lv_aload_n hx hb dX11_queueAt_13 rfl (lv_at hl 0 rfl) ?_
    refine lv_iload_n hx hb dX11_queueAt_14 rfl (lv_at hl 1 rfl) ?_
    refine lv_bipush (v := 39) hx hb dX11_queueAt_15 (by decide) ?_
    refine ty_ki (wr := []) (wc := ([(rf_MO mo mw ma mf m0 m1 mu mv u0 u1 iz th1_4 mb mn mpt mbg mwr mwk mlf men), (rf_RW ct 0 mw 958 f)] ++ ws_3)) (va_runV (As := [.int p1, .int 39]) (rest := [.long 0, .long p2.toInt64]) ⟨hx, hb, hml, hown, hts⟩ (m_of_39 l D ct S ws_3 ph xx mo mw ma mf m0 m1 mu mv u0 u1 iz mb th1_4 mn mpt mbg mwr mwk mlf men f G cx p1 _ hT h_mu h_mv h_u0 h_u1 hph hy1 hR hz_6) (cm_V 2 hts kc_X11_of ki_RX11 kl_RX11_209 kv_X11_of kx_X11_of kd_X11_of ⟨Nat.le_of_ble_eq_true rfl, Nat.le_of_ble_eq_true rfl⟩) (ty_preE (wr := []) (wc := ([(rf_MO mo mw ma mf m0 m1 mu mv u0 u1 iz th1_4 mb mn mpt mbg mwr mwk mlf men), (rf_RW ct 0 mw 958 f)] ++ ws_3)) (ci := 11) (q0 := 0) hP hK hD hS hA hX rfl rfl) rfl rfl hl.1 rfl (lv_room (Nat.le_of_ble_eq_true rfl)) dX11_queueAt_17 ⟨Nat.le_of_ble_eq_true rfl, Nat.le_of_ble_eq_true rfl⟩) hP hD hS hA (fun r_7 u H locs hw_8 hP hD hS => ?_)
    obtain ⟨ws_9, rfl⟩ : ∃ z, z = u := ⟨_, rfl⟩
    obtain ⟨hT, rfl⟩ := hw_8
    have hP : va_P D vwCl ([(rf_MO mo mw ma mf m0 m1 mu mv u0 u1 iz th1_4 mb mn mpt mbg mwr mwk mlf men), (rf_RW ct 0 mw 958 f)] ++ ws_9) H := hP
    have hD : va_D A ([(rf_MO mo mw ma mf m0 m1 mu mv u0 u1 iz th1_4 mb mn mpt mbg mwr mwk mlf men), (rf_RW ct 0 mw 958 f)] ++ ws_9) := hD
    refine lv_iconst (v := 1) hx hb dX11_queueAt_20 (by decide) ?_
    refine lv_isub hx hb dX11_queueAt_21 ?_
    refine lv_i2l hx hb dX11_queueAt_22 rfl ?_
    refine ty_ki (wr := [(rf_MO mo mw ma mf m0 m1 mu mv u0 u1 iz th1_4 mb mn mpt mbg mwr mwk mlf men), (rf_RW ct 0 mw 958 f)]) (wc := ([] ++ ws_9)) (va_runS (As := [.long p2.toInt64, .long 0, .long (((rf_of f p1 39) - 1).toInt64)]) (rest := []) ⟨hx, hb, hml, hown, hts⟩ (m_X11_in l D ct S ws_9 ph xx p2.toInt64 (0 : Int64) (((rf_of f p1 39) - 1).toInt64) _ hT hph hy1) (cm_S 3 hts kc_X11_in ki_RX11 kl_RX11_70 ks_X11_in kd_X11_in ⟨Nat.le_of_ble_eq_true rfl, Nat.le_of_ble_eq_true rfl⟩) (ty_preS (wr := [(rf_MO mo mw ma mf m0 m1 mu mv u0 u1 iz th1_4 mb mn mpt mbg mwr mwk mlf men), (rf_RW ct 0 mw 958 f)]) (wc := ([] ++ ws_9)) hP hK hD hS hA hX) rfl rfl hl.1 rfl (lv_room (Nat.le_of_ble_eq_true rfl)) dX11_queueAt_23 ⟨Nat.le_of_ble_eq_true rfl, Nat.le_of_ble_eq_true rfl⟩) hP hD hS hA (fun r_10 u H locs hw_11 hP hD hS => ?_)
    obtain ⟨ws_12, rfl⟩ : ∃ z, z = u := ⟨_, rfl⟩
    obtain ⟨hT, rfl⟩ := hw_11
    have hP : va_P D vwCl ([(rf_MO mo mw ma mf m0 m1 mu mv u0 u1 iz th1_4 mb mn mpt mbg mwr mwk mlf men), (rf_RW ct 0 mw 958 f)] ++ ws_12) H := hP
    have hD : va_D A ([(rf_MO mo mw ma mf m0 m1 mu mv u0 u1 iz th1_4 mb mn mpt mbg mwr mwk mlf men), (rf_RW ct 0 mw 958 f)] ++ ws_12) := hD
    refine lv_if_eq (tgt := 41) hx hb dX11_queueAt_26 (by decide) (fun hc_13 => ?_) (fun hc_13 => ?_)
    · refine lv_iconst (v := (-1)) hx hb dX11_queueAt_41 (by decide) ?_
      exact W.iret (v := (-1)) hx hb hr (fun t ht hW => ⟨⟨(-1), (ws_12, th1_4), rfl, hT, by rw [ht]; exact hP, by rw [hAe]; exact hD⟩, hS.F ht⟩) hS.2.2 dX11_queueAt_42
    · refine lv_aload_n hx hb dX11_queueAt_29 rfl (lv_at hl 0 rfl) ?_
      refine lv_iload_n hx hb dX11_queueAt_30 rfl (lv_at hl 1 rfl) ?_
      refine lv_bipush (v := 40) hx hb dX11_queueAt_31 (by decide) ?_
      refine lv_iload_n hx hb dX11_queueAt_33 rfl (lv_at hl 2 rfl) ?_
      refine lv_iadd hx hb dX11_queueAt_34 ?_
      refine ty_ki (wr := []) (wc := ([(rf_MO mo mw ma mf m0 m1 mu mv u0 u1 iz th1_4 mb mn mpt mbg mwr mwk mlf men), (rf_RW ct 0 mw 958 f)] ++ ws_12)) (va_runV (As := [.int p1, .int (40 + p2)]) (rest := []) ⟨hx, hb, hml, hown, hts⟩ (m_of_v l D ct S ws_12 ph xx mo mw ma mf m0 m1 mu mv u0 u1 iz mb th1_4 mn mpt mbg mwr mwk mlf men f G cx p1 (40 + p2) _ hT h_mu h_mv h_u0 h_u1 hph hy1 hR hz_6 (by have := rf_qk hR hz_6; have := rf_rngi (L := 0) (by decide) (by omega) (rf_ne0 hc_13); have := rf_qix (q := p2) (by omega); omega)) (cm_V 2 hts kc_X11_of ki_RX11 kl_RX11_209 kv_X11_of kx_X11_of kd_X11_of ⟨Nat.le_of_ble_eq_true rfl, Nat.le_of_ble_eq_true rfl⟩) (ty_preE (wr := []) (wc := ([(rf_MO mo mw ma mf m0 m1 mu mv u0 u1 iz th1_4 mb mn mpt mbg mwr mwk mlf men), (rf_RW ct 0 mw 958 f)] ++ ws_12)) (ci := 11) (q0 := 0) hP hK hD hS hA hX rfl rfl) rfl rfl hl.1 rfl (lv_room (Nat.le_of_ble_eq_true rfl)) dX11_queueAt_35 ⟨Nat.le_of_ble_eq_true rfl, Nat.le_of_ble_eq_true rfl⟩) hP hD hS hA (fun r_14 u H locs hw_15 hP hD hS => ?_)
      obtain ⟨ws_16, rfl⟩ : ∃ z, z = u := ⟨_, rfl⟩
      obtain ⟨hT, rfl⟩ := hw_15
      have hP : va_P D vwCl ([(rf_MO mo mw ma mf m0 m1 mu mv u0 u1 iz th1_4 mb mn mpt mbg mwr mwk mlf men), (rf_RW ct 0 mw 958 f)] ++ ws_16) H := hP
      have hD : va_D A ([(rf_MO mo mw ma mf m0 m1 mu mv u0 u1 iz th1_4 mb mn mpt mbg mwr mwk mlf men), (rf_RW ct 0 mw 958 f)] ++ ws_16) := hD
      refine lv_goto (tgt := 42) hx hb dX11_queueAt_38 (by decide) ?_
      exact W.iret (v := (rf_of f p1 (40 + p2).toInt.toNat)) hx hb hr (fun t ht hW => ⟨⟨(rf_of f p1 (40 + p2).toInt.toNat), (ws_16, th1_4), rfl, hT, by rw [ht]; exact hP, by rw [hAe]; exact hD⟩, hS.F ht⟩) hS.2.2 dX11_queueAt_42
  · refine lv_if_eq (tgt := 10) hx hb dX11_queueAt_5 (by decide) (fun hc => absurd hc (by decide)) (fun _ => ?_)
    refine lv_iconst (v := 0) hx hb dX11_queueAt_8 (by decide) ?_
    exact W.iret (v := 0) hx hb hr (fun t ht hW => ⟨⟨0, (ws_3, th1_4), rfl, hT, by rw [ht]; exact hP, by rw [hAe]; exact hD⟩, hS.F ht⟩) hS.2.2 dX11_queueAt_9
theorem dX11_queueSize_0 : decode cX11_queueSize 0 = .ok (.aload_n 0, 1) := by decide +kernel
theorem dX11_queueSize_1 : decode cX11_queueSize 1 = .ok (.iload_n 1, 1) := by decide +kernel
theorem dX11_queueSize_2 : decode cX11_queueSize 2 = .ok (.invokevirtual 344, 3) := by decide +kernel
theorem dX11_queueSize_5 : decode cX11_queueSize 5 = .ok (.ifCond .eq 7, 3) := by decide +kernel
theorem dX11_queueSize_8 : decode cX11_queueSize 8 = .ok (.iconst 0, 1) := by decide +kernel
theorem dX11_queueSize_9 : decode cX11_queueSize 9 = .ok (.goto 10, 3) := by decide +kernel
theorem dX11_queueSize_12 : decode cX11_queueSize 12 = .ok (.aload_n 0, 1) := by decide +kernel
theorem dX11_queueSize_13 : decode cX11_queueSize 13 = .ok (.iload_n 1, 1) := by decide +kernel
theorem dX11_queueSize_14 : decode cX11_queueSize 14 = .ok (.bipush 39, 2) := by decide +kernel
theorem dX11_queueSize_16 : decode cX11_queueSize 16 = .ok (.invokevirtual 209, 3) := by decide +kernel
theorem dX11_queueSize_19 : decode cX11_queueSize 19 = .ok (.ireturn, 1) := by decide +kernel
set_option maxRecDepth 100000 in
set_option maxHeartbeats 4000000 in
theorem m_X11_queueSize (l : Launch) (D : va_G) (ct : Nat → ClassId) (S : ty_S) (ws : va_W) (ph : va_W → Prop) (xx : Nat → Nat → Nat → Prop) (mo : Nat) (mw : Nat) (ma : Nat) (mf : Nat) (m0 : Nat) (m1 : Nat) (mu : Nat) (mv : Nat) (u0 : Nat) (u1 : Nat) (iz : Nat) (mb : Nat) (th : Int32) (mn : Int32) (mpt : Int32) (mbg : Int32) (mwr : Int32) (mwk : Int32) (mlf : Int32) (men : Int32) (f : Nat → Int32) (G : Nat → Int32) (cx : Int) (p1 : Int32) (sz : Nat) (hT : ty_V ct S ph ws) (h_mu : S mu = some (.inr (1, 42))) (h_mv : S mv = some (.inr (1, 42))) (h_u0 : S u0 = some (.inr (1, 42))) (h_u1 : S u1 = some (.inr (1, 42))) (hph : ty_C ph xx) (hy1 : ty_y1 xx) (hR : rf_R G cx f) : Met l yX11_queueSize (ws_ yX11_queueSize cX11_queueSize 2 (some .int)) ({ frames := 2, cells := 0, slots := 0, locals := 46 } : Room) (va_Pc [.ref mo, .int p1] (cmP D ct sz ([(rf_MO mo mw ma mf m0 m1 mu mv u0 u1 iz th mb mn mpt mbg mwr mwk mlf men), (rf_RW ct 0 mw 958 f)] ++ ws))) (va_Qi (fun (r : Int32) (u : va_W × Int32) => match u with | (u9, th1) => ty_V ct S ph u9) (cmB D ([(rf_MO mo mw ma mf m0 m1 mu mv u0 u1 iz th mb mn mpt mbg mwr mwk mlf men), (rf_RW ct 0 mw 958 f)] ++ ws) sz (fun (u : va_W × Int32) => match u with | (u9, th1) => ([(rf_MO mo mw ma mf m0 m1 mu mv u0 u1 iz th1 mb mn mpt mbg mwr mwk mlf men), (rf_RW ct 0 mw 958 f)] ++ u9))) (va_A ([(rf_MO mo mw ma mf m0 m1 mu mv u0 u1 iz th mb mn mpt mbg mwr mwk mlf men), (rf_RW ct 0 mw 958 f)] ++ ws) sz)) 0 0 (va_A ([(rf_MO mo mw ma mf m0 m1 mu mv u0 u1 iz th mb mn mpt mbg mwr mwk mlf men), (rf_RW ct 0 mw 958 f)] ++ ws) sz) := by
  refine Met.ofW (cc := cX11_queueSize) (maxL := 2) (ret := (some .int)) (by decide) rfl ?_
  intro p e s m args below meth c s₁ B hml hv
  obtain ⟨rfl, hsz, hP, hK, hD0, hX⟩ := hv
  have hx := B.exec
  have hb := B.bytes
  have hr := B.returns
  have hts := ws_all (atoms_spec (ws := ws_ yX11_queueSize cX11_queueSize 2 (some .int)) B.pre)
  have hown : s.vm.findClass RX11 = some m.cls := findClass_of_methodNamed B.named
  have hlocks := B.notSynchronized
  subst hsz
  have hD := hD0.self (sz := s.heap.size)
  generalize hAe : va_A ([(rf_MO mo mw ma mf m0 m1 mu mv u0 u1 iz th mb mn mpt mbg mwr mwk mlf men), (rf_RW ct 0 mw 958 f)] ++ ws) s.heap.size = A at hD hX ⊢
  have hA : ∀ q : Nat, s.heap.size ≤ q → A q := fun q h => by rw [← hAe]; exact Or.inr h
  have hS : va_S A s.heap s.heap [] := va_S.rf
  have hl := lv_entry ([.ref mo, .int p1]) (n := 2) (Nat.le_of_ble_eq_true rfl)
  rw [lg_entry_eq]
  generalize (lg_sl ([.ref mo, .int p1]) ++ List.replicate (2 - (lg_sl ([.ref mo, .int p1])).length) Slot.unset).toArray = ls at hl ⊢
  have hl : lv_has ls 2 [(0, .ref mo), (1, .int p1)] := hl
  refine lv_aload_n hx hb dX11_queueSize_0 rfl (lv_at hl 0 rfl) ?_
  refine lv_iload_n hx hb dX11_queueSize_1 rfl (lv_at hl 1 rfl) ?_
  refine ty_ki (wr := []) (wc := ([(rf_MO mo mw ma mf m0 m1 mu mv u0 u1 iz th mb mn mpt mbg mwr mwk mlf men), (rf_RW ct 0 mw 958 f)] ++ ws)) (va_runV (As := [.int p1]) (rest := []) ⟨hx, hb, hml, hown, hts⟩ (m_X11_noChannel l D ct S ws ph xx mo mw ma mf m0 m1 mu mv u0 u1 iz mb th mn mpt mbg mwr mwk mlf men f G cx p1 _ hT h_mu h_mv h_u0 h_u1 hph hy1 hR) (cm_V 1 hts kc_X11_noChannel ki_RX11 kl_RX11_344 kv_X11_noChannel kx_X11_noChannel kd_X11_noChannel ⟨Nat.le_of_ble_eq_true rfl, Nat.le_of_ble_eq_true rfl⟩) (ty_preE (wr := []) (wc := ([(rf_MO mo mw ma mf m0 m1 mu mv u0 u1 iz th mb mn mpt mbg mwr mwk mlf men), (rf_RW ct 0 mw 958 f)] ++ ws)) (ci := 11) (q0 := 0) hP hK hD hS hA hX rfl rfl) rfl rfl hl.1 rfl (lv_room (Nat.le_of_ble_eq_true rfl)) dX11_queueSize_2 ⟨Nat.le_of_ble_eq_true rfl, Nat.le_of_ble_eq_true rfl⟩) hP hD hS hA (fun r_1 u H locs hw_2 hP hD hS => ?_)
  obtain ⟨ws_3, th1_4⟩ := u
  obtain ⟨hT, hp_5⟩ := hw_2
  have hp_5 : ((r_1 = 0 ∧ 0 ≤ p1.toInt ∧ p1.toInt < (G 9).toInt) ∨ r_1 = 1) := hp_5
  have hP : va_P D vwCl ([(rf_MO mo mw ma mf m0 m1 mu mv u0 u1 iz th1_4 mb mn mpt mbg mwr mwk mlf men), (rf_RW ct 0 mw 958 f)] ++ ws_3) H := hP
  have hD : va_D A ([(rf_MO mo mw ma mf m0 m1 mu mv u0 u1 iz th1_4 mb mn mpt mbg mwr mwk mlf men), (rf_RW ct 0 mw 958 f)] ++ ws_3) := hD
  rcases hp_5 with ⟨rfl, hz_6⟩ | rfl
  · refine lv_if_eq (tgt := 12) hx hb dX11_queueSize_5 (by decide) (fun _ => ?_) (fun hc => absurd (by decide) hc)
    refine lv_aload_n hx hb dX11_queueSize_12 rfl (lv_at hl 0 rfl) ?_
    refine lv_iload_n hx hb dX11_queueSize_13 rfl (lv_at hl 1 rfl) ?_
    refine lv_bipush (v := 39) hx hb dX11_queueSize_14 (by decide) ?_
    refine ty_ki (wr := []) (wc := ([(rf_MO mo mw ma mf m0 m1 mu mv u0 u1 iz th1_4 mb mn mpt mbg mwr mwk mlf men), (rf_RW ct 0 mw 958 f)] ++ ws_3)) (va_runV (As := [.int p1, .int 39]) (rest := []) ⟨hx, hb, hml, hown, hts⟩ (m_of_39 l D ct S ws_3 ph xx mo mw ma mf m0 m1 mu mv u0 u1 iz mb th1_4 mn mpt mbg mwr mwk mlf men f G cx p1 _ hT h_mu h_mv h_u0 h_u1 hph hy1 hR hz_6) (cm_V 2 hts kc_X11_of ki_RX11 kl_RX11_209 kv_X11_of kx_X11_of kd_X11_of ⟨Nat.le_of_ble_eq_true rfl, Nat.le_of_ble_eq_true rfl⟩) (ty_preE (wr := []) (wc := ([(rf_MO mo mw ma mf m0 m1 mu mv u0 u1 iz th1_4 mb mn mpt mbg mwr mwk mlf men), (rf_RW ct 0 mw 958 f)] ++ ws_3)) (ci := 11) (q0 := 0) hP hK hD hS hA hX rfl rfl) rfl rfl hl.1 rfl (lv_room (Nat.le_of_ble_eq_true rfl)) dX11_queueSize_16 ⟨Nat.le_of_ble_eq_true rfl, Nat.le_of_ble_eq_true rfl⟩) hP hD hS hA (fun r_7 u H locs hw_8 hP hD hS => ?_)
    obtain ⟨ws_9, rfl⟩ : ∃ z, z = u := ⟨_, rfl⟩
    obtain ⟨hT, rfl⟩ := hw_8
    have hP : va_P D vwCl ([(rf_MO mo mw ma mf m0 m1 mu mv u0 u1 iz th1_4 mb mn mpt mbg mwr mwk mlf men), (rf_RW ct 0 mw 958 f)] ++ ws_9) H := hP
    have hD : va_D A ([(rf_MO mo mw ma mf m0 m1 mu mv u0 u1 iz th1_4 mb mn mpt mbg mwr mwk mlf men), (rf_RW ct 0 mw 958 f)] ++ ws_9) := hD
    exact W.iret (v := (rf_of f p1 39)) hx hb hr (fun t ht hW => ⟨⟨(rf_of f p1 39), (ws_9, th1_4), rfl, hT, by rw [ht]; exact hP, by rw [hAe]; exact hD⟩, hS.F ht⟩) hS.2.2 dX11_queueSize_19
  · refine lv_if_eq (tgt := 12) hx hb dX11_queueSize_5 (by decide) (fun hc => absurd hc (by decide)) (fun _ => ?_)
    refine lv_iconst (v := 0) hx hb dX11_queueSize_8 (by decide) ?_
    refine lv_goto (tgt := 19) hx hb dX11_queueSize_9 (by decide) ?_
    exact W.iret (v := 0) hx hb hr (fun t ht hW => ⟨⟨0, (ws_3, th1_4), rfl, hT, by rw [ht]; exact hP, by rw [hAe]; exact hD⟩, hS.F ht⟩) hS.2.2 dX11_queueSize_19
theorem dX11_internalResistance_0 : decode cX11_internalResistance 0 = .ok (.aload_n 0, 1) := by decide +kernel
theorem dX11_internalResistance_1 : decode cX11_internalResistance 1 = .ok (.iload_n 1, 1) := by decide +kernel
theorem dX11_internalResistance_2 : decode cX11_internalResistance 2 = .ok (.invokevirtual 344, 3) := by decide +kernel
theorem dX11_internalResistance_5 : decode cX11_internalResistance 5 = .ok (.ifCond .eq 7, 3) := by decide +kernel
theorem dX11_internalResistance_8 : decode cX11_internalResistance 8 = .ok (.iconst 0, 1) := by decide +kernel
theorem dX11_internalResistance_9 : decode cX11_internalResistance 9 = .ok (.goto 10, 3) := by decide +kernel
theorem dX11_internalResistance_12 : decode cX11_internalResistance 12 = .ok (.aload_n 0, 1) := by decide +kernel
theorem dX11_internalResistance_13 : decode cX11_internalResistance 13 = .ok (.iload_n 1, 1) := by decide +kernel
theorem dX11_internalResistance_14 : decode cX11_internalResistance 14 = .ok (.bipush 38, 2) := by decide +kernel
theorem dX11_internalResistance_16 : decode cX11_internalResistance 16 = .ok (.invokevirtual 209, 3) := by decide +kernel
theorem dX11_internalResistance_19 : decode cX11_internalResistance 19 = .ok (.ireturn, 1) := by decide +kernel
set_option maxRecDepth 100000 in
set_option maxHeartbeats 4000000 in
theorem m_X11_internalResistance (l : Launch) (D : va_G) (ct : Nat → ClassId) (S : ty_S) (ws : va_W) (ph : va_W → Prop) (xx : Nat → Nat → Nat → Prop) (mo : Nat) (mw : Nat) (ma : Nat) (mf : Nat) (m0 : Nat) (m1 : Nat) (mu : Nat) (mv : Nat) (u0 : Nat) (u1 : Nat) (iz : Nat) (mb : Nat) (th : Int32) (mn : Int32) (mpt : Int32) (mbg : Int32) (mwr : Int32) (mwk : Int32) (mlf : Int32) (men : Int32) (f : Nat → Int32) (G : Nat → Int32) (cx : Int) (p1 : Int32) (sz : Nat) (hT : ty_V ct S ph ws) (h_mu : S mu = some (.inr (1, 42))) (h_mv : S mv = some (.inr (1, 42))) (h_u0 : S u0 = some (.inr (1, 42))) (h_u1 : S u1 = some (.inr (1, 42))) (hph : ty_C ph xx) (hy1 : ty_y1 xx) (hR : rf_R G cx f) : Met l yX11_internalResistance (ws_ yX11_internalResistance cX11_internalResistance 2 (some .int)) ({ frames := 2, cells := 0, slots := 0, locals := 46 } : Room) (va_Pc [.ref mo, .int p1] (cmP D ct sz ([(rf_MO mo mw ma mf m0 m1 mu mv u0 u1 iz th mb mn mpt mbg mwr mwk mlf men), (rf_RW ct 0 mw 958 f)] ++ ws))) (va_Qi (fun (r : Int32) (u : va_W × Int32) => match u with | (u9, th1) => ty_V ct S ph u9) (cmB D ([(rf_MO mo mw ma mf m0 m1 mu mv u0 u1 iz th mb mn mpt mbg mwr mwk mlf men), (rf_RW ct 0 mw 958 f)] ++ ws) sz (fun (u : va_W × Int32) => match u with | (u9, th1) => ([(rf_MO mo mw ma mf m0 m1 mu mv u0 u1 iz th1 mb mn mpt mbg mwr mwk mlf men), (rf_RW ct 0 mw 958 f)] ++ u9))) (va_A ([(rf_MO mo mw ma mf m0 m1 mu mv u0 u1 iz th mb mn mpt mbg mwr mwk mlf men), (rf_RW ct 0 mw 958 f)] ++ ws) sz)) 0 0 (va_A ([(rf_MO mo mw ma mf m0 m1 mu mv u0 u1 iz th mb mn mpt mbg mwr mwk mlf men), (rf_RW ct 0 mw 958 f)] ++ ws) sz) := by
  refine Met.ofW (cc := cX11_internalResistance) (maxL := 2) (ret := (some .int)) (by decide) rfl ?_
  intro p e s m args below meth c s₁ B hml hv
  obtain ⟨rfl, hsz, hP, hK, hD0, hX⟩ := hv
  have hx := B.exec
  have hb := B.bytes
  have hr := B.returns
  have hts := ws_all (atoms_spec (ws := ws_ yX11_internalResistance cX11_internalResistance 2 (some .int)) B.pre)
  have hown : s.vm.findClass RX11 = some m.cls := findClass_of_methodNamed B.named
  have hlocks := B.notSynchronized
  subst hsz
  have hD := hD0.self (sz := s.heap.size)
  generalize hAe : va_A ([(rf_MO mo mw ma mf m0 m1 mu mv u0 u1 iz th mb mn mpt mbg mwr mwk mlf men), (rf_RW ct 0 mw 958 f)] ++ ws) s.heap.size = A at hD hX ⊢
  have hA : ∀ q : Nat, s.heap.size ≤ q → A q := fun q h => by rw [← hAe]; exact Or.inr h
  have hS : va_S A s.heap s.heap [] := va_S.rf
  have hl := lv_entry ([.ref mo, .int p1]) (n := 2) (Nat.le_of_ble_eq_true rfl)
  rw [lg_entry_eq]
  generalize (lg_sl ([.ref mo, .int p1]) ++ List.replicate (2 - (lg_sl ([.ref mo, .int p1])).length) Slot.unset).toArray = ls at hl ⊢
  have hl : lv_has ls 2 [(0, .ref mo), (1, .int p1)] := hl
  refine lv_aload_n hx hb dX11_internalResistance_0 rfl (lv_at hl 0 rfl) ?_
  refine lv_iload_n hx hb dX11_internalResistance_1 rfl (lv_at hl 1 rfl) ?_
  refine ty_ki (wr := []) (wc := ([(rf_MO mo mw ma mf m0 m1 mu mv u0 u1 iz th mb mn mpt mbg mwr mwk mlf men), (rf_RW ct 0 mw 958 f)] ++ ws)) (va_runV (As := [.int p1]) (rest := []) ⟨hx, hb, hml, hown, hts⟩ (m_X11_noChannel l D ct S ws ph xx mo mw ma mf m0 m1 mu mv u0 u1 iz mb th mn mpt mbg mwr mwk mlf men f G cx p1 _ hT h_mu h_mv h_u0 h_u1 hph hy1 hR) (cm_V 1 hts kc_X11_noChannel ki_RX11 kl_RX11_344 kv_X11_noChannel kx_X11_noChannel kd_X11_noChannel ⟨Nat.le_of_ble_eq_true rfl, Nat.le_of_ble_eq_true rfl⟩) (ty_preE (wr := []) (wc := ([(rf_MO mo mw ma mf m0 m1 mu mv u0 u1 iz th mb mn mpt mbg mwr mwk mlf men), (rf_RW ct 0 mw 958 f)] ++ ws)) (ci := 11) (q0 := 0) hP hK hD hS hA hX rfl rfl) rfl rfl hl.1 rfl (lv_room (Nat.le_of_ble_eq_true rfl)) dX11_internalResistance_2 ⟨Nat.le_of_ble_eq_true rfl, Nat.le_of_ble_eq_true rfl⟩) hP hD hS hA (fun r_1 u H locs hw_2 hP hD hS => ?_)
  obtain ⟨ws_3, th1_4⟩ := u
  obtain ⟨hT, hp_5⟩ := hw_2
  have hp_5 : ((r_1 = 0 ∧ 0 ≤ p1.toInt ∧ p1.toInt < (G 9).toInt) ∨ r_1 = 1) := hp_5
  have hP : va_P D vwCl ([(rf_MO mo mw ma mf m0 m1 mu mv u0 u1 iz th1_4 mb mn mpt mbg mwr mwk mlf men), (rf_RW ct 0 mw 958 f)] ++ ws_3) H := hP
  have hD : va_D A ([(rf_MO mo mw ma mf m0 m1 mu mv u0 u1 iz th1_4 mb mn mpt mbg mwr mwk mlf men), (rf_RW ct 0 mw 958 f)] ++ ws_3) := hD
  rcases hp_5 with ⟨rfl, hz_6⟩ | rfl
  · refine lv_if_eq (tgt := 12) hx hb dX11_internalResistance_5 (by decide) (fun _ => ?_) (fun hc => absurd (by decide) hc)
    refine lv_aload_n hx hb dX11_internalResistance_12 rfl (lv_at hl 0 rfl) ?_
    refine lv_iload_n hx hb dX11_internalResistance_13 rfl (lv_at hl 1 rfl) ?_
    refine lv_bipush (v := 38) hx hb dX11_internalResistance_14 (by decide) ?_
    refine ty_ki (wr := []) (wc := ([(rf_MO mo mw ma mf m0 m1 mu mv u0 u1 iz th1_4 mb mn mpt mbg mwr mwk mlf men), (rf_RW ct 0 mw 958 f)] ++ ws_3)) (va_runV (As := [.int p1, .int 38]) (rest := []) ⟨hx, hb, hml, hown, hts⟩ (m_of_38 l D ct S ws_3 ph xx mo mw ma mf m0 m1 mu mv u0 u1 iz mb th1_4 mn mpt mbg mwr mwk mlf men f G cx p1 _ hT h_mu h_mv h_u0 h_u1 hph hy1 hR hz_6) (cm_V 2 hts kc_X11_of ki_RX11 kl_RX11_209 kv_X11_of kx_X11_of kd_X11_of ⟨Nat.le_of_ble_eq_true rfl, Nat.le_of_ble_eq_true rfl⟩) (ty_preE (wr := []) (wc := ([(rf_MO mo mw ma mf m0 m1 mu mv u0 u1 iz th1_4 mb mn mpt mbg mwr mwk mlf men), (rf_RW ct 0 mw 958 f)] ++ ws_3)) (ci := 11) (q0 := 0) hP hK hD hS hA hX rfl rfl) rfl rfl hl.1 rfl (lv_room (Nat.le_of_ble_eq_true rfl)) dX11_internalResistance_16 ⟨Nat.le_of_ble_eq_true rfl, Nat.le_of_ble_eq_true rfl⟩) hP hD hS hA (fun r_7 u H locs hw_8 hP hD hS => ?_)
    obtain ⟨ws_9, rfl⟩ : ∃ z, z = u := ⟨_, rfl⟩
    obtain ⟨hT, rfl⟩ := hw_8
    have hP : va_P D vwCl ([(rf_MO mo mw ma mf m0 m1 mu mv u0 u1 iz th1_4 mb mn mpt mbg mwr mwk mlf men), (rf_RW ct 0 mw 958 f)] ++ ws_9) H := hP
    have hD : va_D A ([(rf_MO mo mw ma mf m0 m1 mu mv u0 u1 iz th1_4 mb mn mpt mbg mwr mwk mlf men), (rf_RW ct 0 mw 958 f)] ++ ws_9) := hD
    exact W.iret (v := (rf_of f p1 38)) hx hb hr (fun t ht hW => ⟨⟨(rf_of f p1 38), (ws_9, th1_4), rfl, hT, by rw [ht]; exact hP, by rw [hAe]; exact hD⟩, hS.F ht⟩) hS.2.2 dX11_internalResistance_19
  · refine lv_if_eq (tgt := 12) hx hb dX11_internalResistance_5 (by decide) (fun hc => absurd hc (by decide)) (fun _ => ?_)
    refine lv_iconst (v := 0) hx hb dX11_internalResistance_8 (by decide) ?_
    refine lv_goto (tgt := 19) hx hb dX11_internalResistance_9 (by decide) ?_
    exact W.iret (v := 0) hx hb hr (fun t ht hW => ⟨⟨0, (ws_3, th1_4), rfl, hT, by rw [ht]; exact hP, by rw [hAe]; exact hD⟩, hS.F ht⟩) hS.2.2 dX11_internalResistance_19
theorem dX11_warnings_0 : decode cX11_warnings 0 = .ok (.aload_n 0, 1) := by decide +kernel
theorem dX11_warnings_1 : decode cX11_warnings 1 = .ok (.iload_n 1, 1) := by decide +kernel
theorem dX11_warnings_2 : decode cX11_warnings 2 = .ok (.invokevirtual 344, 3) := by decide +kernel
theorem dX11_warnings_5 : decode cX11_warnings 5 = .ok (.ifCond .eq 7, 3) := by decide +kernel
theorem dX11_warnings_8 : decode cX11_warnings 8 = .ok (.iconst 0, 1) := by decide +kernel
theorem dX11_warnings_9 : decode cX11_warnings 9 = .ok (.goto 10, 3) := by decide +kernel
theorem dX11_warnings_12 : decode cX11_warnings 12 = .ok (.aload_n 0, 1) := by decide +kernel
theorem dX11_warnings_13 : decode cX11_warnings 13 = .ok (.iload_n 1, 1) := by decide +kernel
theorem dX11_warnings_14 : decode cX11_warnings 14 = .ok (.bipush 36, 2) := by decide +kernel
theorem dX11_warnings_16 : decode cX11_warnings 16 = .ok (.invokevirtual 209, 3) := by decide +kernel
theorem dX11_warnings_19 : decode cX11_warnings 19 = .ok (.ireturn, 1) := by decide +kernel
set_option maxRecDepth 100000 in
set_option maxHeartbeats 4000000 in
theorem m_X11_warnings (l : Launch) (D : va_G) (ct : Nat → ClassId) (S : ty_S) (ws : va_W) (ph : va_W → Prop) (xx : Nat → Nat → Nat → Prop) (mo : Nat) (mw : Nat) (ma : Nat) (mf : Nat) (m0 : Nat) (m1 : Nat) (mu : Nat) (mv : Nat) (u0 : Nat) (u1 : Nat) (iz : Nat) (mb : Nat) (th : Int32) (mn : Int32) (mpt : Int32) (mbg : Int32) (mwr : Int32) (mwk : Int32) (mlf : Int32) (men : Int32) (f : Nat → Int32) (G : Nat → Int32) (cx : Int) (p1 : Int32) (sz : Nat) (hT : ty_V ct S ph ws) (h_mu : S mu = some (.inr (1, 42))) (h_mv : S mv = some (.inr (1, 42))) (h_u0 : S u0 = some (.inr (1, 42))) (h_u1 : S u1 = some (.inr (1, 42))) (hph : ty_C ph xx) (hy1 : ty_y1 xx) (hR : rf_R G cx f) : Met l yX11_warnings (ws_ yX11_warnings cX11_warnings 2 (some .int)) ({ frames := 2, cells := 0, slots := 0, locals := 46 } : Room) (va_Pc [.ref mo, .int p1] (cmP D ct sz ([(rf_MO mo mw ma mf m0 m1 mu mv u0 u1 iz th mb mn mpt mbg mwr mwk mlf men), (rf_RW ct 0 mw 958 f)] ++ ws))) (va_Qi (fun (r : Int32) (u : va_W × Int32) => match u with | (u9, th1) => ty_V ct S ph u9) (cmB D ([(rf_MO mo mw ma mf m0 m1 mu mv u0 u1 iz th mb mn mpt mbg mwr mwk mlf men), (rf_RW ct 0 mw 958 f)] ++ ws) sz (fun (u : va_W × Int32) => match u with | (u9, th1) => ([(rf_MO mo mw ma mf m0 m1 mu mv u0 u1 iz th1 mb mn mpt mbg mwr mwk mlf men), (rf_RW ct 0 mw 958 f)] ++ u9))) (va_A ([(rf_MO mo mw ma mf m0 m1 mu mv u0 u1 iz th mb mn mpt mbg mwr mwk mlf men), (rf_RW ct 0 mw 958 f)] ++ ws) sz)) 0 0 (va_A ([(rf_MO mo mw ma mf m0 m1 mu mv u0 u1 iz th mb mn mpt mbg mwr mwk mlf men), (rf_RW ct 0 mw 958 f)] ++ ws) sz) := by
  refine Met.ofW (cc := cX11_warnings) (maxL := 2) (ret := (some .int)) (by decide) rfl ?_
  intro p e s m args below meth c s₁ B hml hv
  obtain ⟨rfl, hsz, hP, hK, hD0, hX⟩ := hv
  have hx := B.exec
  have hb := B.bytes
  have hr := B.returns
  have hts := ws_all (atoms_spec (ws := ws_ yX11_warnings cX11_warnings 2 (some .int)) B.pre)
  have hown : s.vm.findClass RX11 = some m.cls := findClass_of_methodNamed B.named
  have hlocks := B.notSynchronized
  subst hsz
  have hD := hD0.self (sz := s.heap.size)
  generalize hAe : va_A ([(rf_MO mo mw ma mf m0 m1 mu mv u0 u1 iz th mb mn mpt mbg mwr mwk mlf men), (rf_RW ct 0 mw 958 f)] ++ ws) s.heap.size = A at hD hX ⊢
  have hA : ∀ q : Nat, s.heap.size ≤ q → A q := fun q h => by rw [← hAe]; exact Or.inr h
  have hS : va_S A s.heap s.heap [] := va_S.rf
  have hl := lv_entry ([.ref mo, .int p1]) (n := 2) (Nat.le_of_ble_eq_true rfl)
  rw [lg_entry_eq]
  generalize (lg_sl ([.ref mo, .int p1]) ++ List.replicate (2 - (lg_sl ([.ref mo, .int p1])).length) Slot.unset).toArray = ls at hl ⊢
  have hl : lv_has ls 2 [(0, .ref mo), (1, .int p1)] := hl
  refine lv_aload_n hx hb dX11_warnings_0 rfl (lv_at hl 0 rfl) ?_
  refine lv_iload_n hx hb dX11_warnings_1 rfl (lv_at hl 1 rfl) ?_
  refine ty_ki (wr := []) (wc := ([(rf_MO mo mw ma mf m0 m1 mu mv u0 u1 iz th mb mn mpt mbg mwr mwk mlf men), (rf_RW ct 0 mw 958 f)] ++ ws)) (va_runV (As := [.int p1]) (rest := []) ⟨hx, hb, hml, hown, hts⟩ (m_X11_noChannel l D ct S ws ph xx mo mw ma mf m0 m1 mu mv u0 u1 iz mb th mn mpt mbg mwr mwk mlf men f G cx p1 _ hT h_mu h_mv h_u0 h_u1 hph hy1 hR) (cm_V 1 hts kc_X11_noChannel ki_RX11 kl_RX11_344 kv_X11_noChannel kx_X11_noChannel kd_X11_noChannel ⟨Nat.le_of_ble_eq_true rfl, Nat.le_of_ble_eq_true rfl⟩) (ty_preE (wr := []) (wc := ([(rf_MO mo mw ma mf m0 m1 mu mv u0 u1 iz th mb mn mpt mbg mwr mwk mlf men), (rf_RW ct 0 mw 958 f)] ++ ws)) (ci := 11) (q0 := 0) hP hK hD hS hA hX rfl rfl) rfl rfl hl.1 rfl (lv_room (Nat.le_of_ble_eq_true rfl)) dX11_warnings_2 ⟨Nat.le_of_ble_eq_true rfl, Nat.le_of_ble_eq_true rfl⟩) hP hD hS hA (fun r_1 u H locs hw_2 hP hD hS => ?_)
  obtain ⟨ws_3, th1_4⟩ := u
  obtain ⟨hT, hp_5⟩ := hw_2
  have hp_5 : ((r_1 = 0 ∧ 0 ≤ p1.toInt ∧ p1.toInt < (G 9).toInt) ∨ r_1 = 1) := hp_5
  have hP : va_P D vwCl ([(rf_MO mo mw ma mf m0 m1 mu mv u0 u1 iz th1_4 mb mn mpt mbg mwr mwk mlf men), (rf_RW ct 0 mw 958 f)] ++ ws_3) H := hP
  have hD : va_D A ([(rf_MO mo mw ma mf m0 m1 mu mv u0 u1 iz th1_4 mb mn mpt mbg mwr mwk mlf men), (rf_RW ct 0 mw 958 f)] ++ ws_3) := hD
  rcases hp_5 with ⟨rfl, hz_6⟩ | rfl
  · refine lv_if_eq (tgt := 12) hx hb dX11_warnings_5 (by decide) (fun _ => ?_) (fun hc => absurd (by decide) hc)
    refine lv_aload_n hx hb dX11_warnings_12 rfl (lv_at hl 0 rfl) ?_
    refine lv_iload_n hx hb dX11_warnings_13 rfl (lv_at hl 1 rfl) ?_
    refine lv_bipush (v := 36) hx hb dX11_warnings_14 (by decide) ?_
    refine ty_ki (wr := []) (wc := ([(rf_MO mo mw ma mf m0 m1 mu mv u0 u1 iz th1_4 mb mn mpt mbg mwr mwk mlf men), (rf_RW ct 0 mw 958 f)] ++ ws_3)) (va_runV (As := [.int p1, .int 36]) (rest := []) ⟨hx, hb, hml, hown, hts⟩ (m_of_36 l D ct S ws_3 ph xx mo mw ma mf m0 m1 mu mv u0 u1 iz mb th1_4 mn mpt mbg mwr mwk mlf men f G cx p1 _ hT h_mu h_mv h_u0 h_u1 hph hy1 hR hz_6) (cm_V 2 hts kc_X11_of ki_RX11 kl_RX11_209 kv_X11_of kx_X11_of kd_X11_of ⟨Nat.le_of_ble_eq_true rfl, Nat.le_of_ble_eq_true rfl⟩) (ty_preE (wr := []) (wc := ([(rf_MO mo mw ma mf m0 m1 mu mv u0 u1 iz th1_4 mb mn mpt mbg mwr mwk mlf men), (rf_RW ct 0 mw 958 f)] ++ ws_3)) (ci := 11) (q0 := 0) hP hK hD hS hA hX rfl rfl) rfl rfl hl.1 rfl (lv_room (Nat.le_of_ble_eq_true rfl)) dX11_warnings_16 ⟨Nat.le_of_ble_eq_true rfl, Nat.le_of_ble_eq_true rfl⟩) hP hD hS hA (fun r_7 u H locs hw_8 hP hD hS => ?_)
    obtain ⟨ws_9, rfl⟩ : ∃ z, z = u := ⟨_, rfl⟩
    obtain ⟨hT, rfl⟩ := hw_8
    have hP : va_P D vwCl ([(rf_MO mo mw ma mf m0 m1 mu mv u0 u1 iz th1_4 mb mn mpt mbg mwr mwk mlf men), (rf_RW ct 0 mw 958 f)] ++ ws_9) H := hP
    have hD : va_D A ([(rf_MO mo mw ma mf m0 m1 mu mv u0 u1 iz th1_4 mb mn mpt mbg mwr mwk mlf men), (rf_RW ct 0 mw 958 f)] ++ ws_9) := hD
    exact W.iret (v := (rf_of f p1 36)) hx hb hr (fun t ht hW => ⟨⟨(rf_of f p1 36), (ws_9, th1_4), rfl, hT, by rw [ht]; exact hP, by rw [hAe]; exact hD⟩, hS.F ht⟩) hS.2.2 dX11_warnings_19
  · refine lv_if_eq (tgt := 12) hx hb dX11_warnings_5 (by decide) (fun hc => absurd hc (by decide)) (fun _ => ?_)
    refine lv_iconst (v := 0) hx hb dX11_warnings_8 (by decide) ?_
    refine lv_goto (tgt := 19) hx hb dX11_warnings_9 (by decide) ?_
    exact W.iret (v := 0) hx hb hr (fun t ht hW => ⟨⟨0, (ws_3, th1_4), rfl, hT, by rw [ht]; exact hP, by rw [hAe]; exact hD⟩, hS.F ht⟩) hS.2.2 dX11_warnings_19
theorem dX11_warned_0 : decode cX11_warned 0 = .ok (.aload_n 0, 1) := by decide +kernel
theorem dX11_warned_1 : decode cX11_warned 1 = .ok (.iload_n 1, 1) := by decide +kernel
theorem dX11_warned_2 : decode cX11_warned 2 = .ok (.invokevirtual 344, 3) := by decide +kernel
theorem dX11_warned_5 : decode cX11_warned 5 = .ok (.ifCond .eq 7, 3) := by decide +kernel
theorem dX11_warned_8 : decode cX11_warned 8 = .ok (.iconst 0, 1) := by decide +kernel
theorem dX11_warned_9 : decode cX11_warned 9 = .ok (.goto 10, 3) := by decide +kernel
theorem dX11_warned_12 : decode cX11_warned 12 = .ok (.aload_n 0, 1) := by decide +kernel
theorem dX11_warned_13 : decode cX11_warned 13 = .ok (.iload_n 1, 1) := by decide +kernel
theorem dX11_warned_14 : decode cX11_warned 14 = .ok (.bipush 37, 2) := by decide +kernel
theorem dX11_warned_16 : decode cX11_warned 16 = .ok (.invokevirtual 209, 3) := by decide +kernel
theorem dX11_warned_19 : decode cX11_warned 19 = .ok (.ireturn, 1) := by decide +kernel
set_option maxRecDepth 100000 in
set_option maxHeartbeats 4000000 in
theorem m_X11_warned (l : Launch) (D : va_G) (ct : Nat → ClassId) (S : ty_S) (ws : va_W) (ph : va_W → Prop) (xx : Nat → Nat → Nat → Prop) (mo : Nat) (mw : Nat) (ma : Nat) (mf : Nat) (m0 : Nat) (m1 : Nat) (mu : Nat) (mv : Nat) (u0 : Nat) (u1 : Nat) (iz : Nat) (mb : Nat) (th : Int32) (mn : Int32) (mpt : Int32) (mbg : Int32) (mwr : Int32) (mwk : Int32) (mlf : Int32) (men : Int32) (f : Nat → Int32) (G : Nat → Int32) (cx : Int) (p1 : Int32) (sz : Nat) (hT : ty_V ct S ph ws) (h_mu : S mu = some (.inr (1, 42))) (h_mv : S mv = some (.inr (1, 42))) (h_u0 : S u0 = some (.inr (1, 42))) (h_u1 : S u1 = some (.inr (1, 42))) (hph : ty_C ph xx) (hy1 : ty_y1 xx) (hR : rf_R G cx f) : Met l yX11_warned (ws_ yX11_warned cX11_warned 2 (some .int)) ({ frames := 2, cells := 0, slots := 0, locals := 46 } : Room) (va_Pc [.ref mo, .int p1] (cmP D ct sz ([(rf_MO mo mw ma mf m0 m1 mu mv u0 u1 iz th mb mn mpt mbg mwr mwk mlf men), (rf_RW ct 0 mw 958 f)] ++ ws))) (va_Qi (fun (r : Int32) (u : va_W × Int32) => match u with | (u9, th1) => ty_V ct S ph u9) (cmB D ([(rf_MO mo mw ma mf m0 m1 mu mv u0 u1 iz th mb mn mpt mbg mwr mwk mlf men), (rf_RW ct 0 mw 958 f)] ++ ws) sz (fun (u : va_W × Int32) => match u with | (u9, th1) => ([(rf_MO mo mw ma mf m0 m1 mu mv u0 u1 iz th1 mb mn mpt mbg mwr mwk mlf men), (rf_RW ct 0 mw 958 f)] ++ u9))) (va_A ([(rf_MO mo mw ma mf m0 m1 mu mv u0 u1 iz th mb mn mpt mbg mwr mwk mlf men), (rf_RW ct 0 mw 958 f)] ++ ws) sz)) 0 0 (va_A ([(rf_MO mo mw ma mf m0 m1 mu mv u0 u1 iz th mb mn mpt mbg mwr mwk mlf men), (rf_RW ct 0 mw 958 f)] ++ ws) sz) := by
  refine Met.ofW (cc := cX11_warned) (maxL := 2) (ret := (some .int)) (by decide) rfl ?_
  intro p e s m args below meth c s₁ B hml hv
  obtain ⟨rfl, hsz, hP, hK, hD0, hX⟩ := hv
  have hx := B.exec
  have hb := B.bytes
  have hr := B.returns
  have hts := ws_all (atoms_spec (ws := ws_ yX11_warned cX11_warned 2 (some .int)) B.pre)
  have hown : s.vm.findClass RX11 = some m.cls := findClass_of_methodNamed B.named
  have hlocks := B.notSynchronized
  subst hsz
  have hD := hD0.self (sz := s.heap.size)
  generalize hAe : va_A ([(rf_MO mo mw ma mf m0 m1 mu mv u0 u1 iz th mb mn mpt mbg mwr mwk mlf men), (rf_RW ct 0 mw 958 f)] ++ ws) s.heap.size = A at hD hX ⊢
  have hA : ∀ q : Nat, s.heap.size ≤ q → A q := fun q h => by rw [← hAe]; exact Or.inr h
  have hS : va_S A s.heap s.heap [] := va_S.rf
  have hl := lv_entry ([.ref mo, .int p1]) (n := 2) (Nat.le_of_ble_eq_true rfl)
  rw [lg_entry_eq]
  generalize (lg_sl ([.ref mo, .int p1]) ++ List.replicate (2 - (lg_sl ([.ref mo, .int p1])).length) Slot.unset).toArray = ls at hl ⊢
  have hl : lv_has ls 2 [(0, .ref mo), (1, .int p1)] := hl
  refine lv_aload_n hx hb dX11_warned_0 rfl (lv_at hl 0 rfl) ?_
  refine lv_iload_n hx hb dX11_warned_1 rfl (lv_at hl 1 rfl) ?_
  refine ty_ki (wr := []) (wc := ([(rf_MO mo mw ma mf m0 m1 mu mv u0 u1 iz th mb mn mpt mbg mwr mwk mlf men), (rf_RW ct 0 mw 958 f)] ++ ws)) (va_runV (As := [.int p1]) (rest := []) ⟨hx, hb, hml, hown, hts⟩ (m_X11_noChannel l D ct S ws ph xx mo mw ma mf m0 m1 mu mv u0 u1 iz mb th mn mpt mbg mwr mwk mlf men f G cx p1 _ hT h_mu h_mv h_u0 h_u1 hph hy1 hR) (cm_V 1 hts kc_X11_noChannel ki_RX11 kl_RX11_344 kv_X11_noChannel kx_X11_noChannel kd_X11_noChannel ⟨Nat.le_of_ble_eq_true rfl, Nat.le_of_ble_eq_true rfl⟩) (ty_preE (wr := []) (wc := ([(rf_MO mo mw ma mf m0 m1 mu mv u0 u1 iz th mb mn mpt mbg mwr mwk mlf men), (rf_RW ct 0 mw 958 f)] ++ ws)) (ci := 11) (q0 := 0) hP hK hD hS hA hX rfl rfl) rfl rfl hl.1 rfl (lv_room (Nat.le_of_ble_eq_true rfl)) dX11_warned_2 ⟨Nat.le_of_ble_eq_true rfl, Nat.le_of_ble_eq_true rfl⟩) hP hD hS hA (fun r_1 u H locs hw_2 hP hD hS => ?_)
  obtain ⟨ws_3, th1_4⟩ := u
  obtain ⟨hT, hp_5⟩ := hw_2
  have hp_5 : ((r_1 = 0 ∧ 0 ≤ p1.toInt ∧ p1.toInt < (G 9).toInt) ∨ r_1 = 1) := hp_5
  have hP : va_P D vwCl ([(rf_MO mo mw ma mf m0 m1 mu mv u0 u1 iz th1_4 mb mn mpt mbg mwr mwk mlf men), (rf_RW ct 0 mw 958 f)] ++ ws_3) H := hP
  have hD : va_D A ([(rf_MO mo mw ma mf m0 m1 mu mv u0 u1 iz th1_4 mb mn mpt mbg mwr mwk mlf men), (rf_RW ct 0 mw 958 f)] ++ ws_3) := hD
  rcases hp_5 with ⟨rfl, hz_6⟩ | rfl
  · refine lv_if_eq (tgt := 12) hx hb dX11_warned_5 (by decide) (fun _ => ?_) (fun hc => absurd (by decide) hc)
    refine lv_aload_n hx hb dX11_warned_12 rfl (lv_at hl 0 rfl) ?_
    refine lv_iload_n hx hb dX11_warned_13 rfl (lv_at hl 1 rfl) ?_
    refine lv_bipush (v := 37) hx hb dX11_warned_14 (by decide) ?_
    refine ty_ki (wr := []) (wc := ([(rf_MO mo mw ma mf m0 m1 mu mv u0 u1 iz th1_4 mb mn mpt mbg mwr mwk mlf men), (rf_RW ct 0 mw 958 f)] ++ ws_3)) (va_runV (As := [.int p1, .int 37]) (rest := []) ⟨hx, hb, hml, hown, hts⟩ (m_of_37 l D ct S ws_3 ph xx mo mw ma mf m0 m1 mu mv u0 u1 iz mb th1_4 mn mpt mbg mwr mwk mlf men f G cx p1 _ hT h_mu h_mv h_u0 h_u1 hph hy1 hR hz_6) (cm_V 2 hts kc_X11_of ki_RX11 kl_RX11_209 kv_X11_of kx_X11_of kd_X11_of ⟨Nat.le_of_ble_eq_true rfl, Nat.le_of_ble_eq_true rfl⟩) (ty_preE (wr := []) (wc := ([(rf_MO mo mw ma mf m0 m1 mu mv u0 u1 iz th1_4 mb mn mpt mbg mwr mwk mlf men), (rf_RW ct 0 mw 958 f)] ++ ws_3)) (ci := 11) (q0 := 0) hP hK hD hS hA hX rfl rfl) rfl rfl hl.1 rfl (lv_room (Nat.le_of_ble_eq_true rfl)) dX11_warned_16 ⟨Nat.le_of_ble_eq_true rfl, Nat.le_of_ble_eq_true rfl⟩) hP hD hS hA (fun r_7 u H locs hw_8 hP hD hS => ?_)
    obtain ⟨ws_9, rfl⟩ : ∃ z, z = u := ⟨_, rfl⟩
    obtain ⟨hT, rfl⟩ := hw_8
    have hP : va_P D vwCl ([(rf_MO mo mw ma mf m0 m1 mu mv u0 u1 iz th1_4 mb mn mpt mbg mwr mwk mlf men), (rf_RW ct 0 mw 958 f)] ++ ws_9) H := hP
    have hD : va_D A ([(rf_MO mo mw ma mf m0 m1 mu mv u0 u1 iz th1_4 mb mn mpt mbg mwr mwk mlf men), (rf_RW ct 0 mw 958 f)] ++ ws_9) := hD
    exact W.iret (v := (rf_of f p1 37)) hx hb hr (fun t ht hW => ⟨⟨(rf_of f p1 37), (ws_9, th1_4), rfl, hT, by rw [ht]; exact hP, by rw [hAe]; exact hD⟩, hS.F ht⟩) hS.2.2 dX11_warned_19
  · refine lv_if_eq (tgt := 12) hx hb dX11_warned_5 (by decide) (fun hc => absurd hc (by decide)) (fun _ => ?_)
    refine lv_iconst (v := 0) hx hb dX11_warned_8 (by decide) ?_
    refine lv_goto (tgt := 19) hx hb dX11_warned_9 (by decide) ?_
    exact W.iret (v := 0) hx hb hr (fun t ht hW => ⟨⟨0, (ws_3, th1_4), rfl, hT, by rw [ht]; exact hP, by rw [hAe]; exact hD⟩, hS.F ht⟩) hS.2.2 dX11_warned_19
theorem dX11_filling_0 : decode cX11_filling 0 = .ok (.aload_n 0, 1) := by decide +kernel
theorem dX11_filling_1 : decode cX11_filling 1 = .ok (.iload_n 1, 1) := by decide +kernel
theorem dX11_filling_2 : decode cX11_filling 2 = .ok (.invokevirtual 344, 3) := by decide +kernel
theorem dX11_filling_5 : decode cX11_filling 5 = .ok (.ifCond .eq 7, 3) := by decide +kernel
theorem dX11_filling_8 : decode cX11_filling 8 = .ok (.iconst 0, 1) := by decide +kernel
theorem dX11_filling_9 : decode cX11_filling 9 = .ok (.goto 8, 3) := by decide +kernel
theorem dX11_filling_12 : decode cX11_filling 12 = .ok (.aload_n 0, 1) := by decide +kernel
theorem dX11_filling_13 : decode cX11_filling 13 = .ok (.iload_n 1, 1) := by decide +kernel
theorem dX11_filling_14 : decode cX11_filling 14 = .ok (.invokevirtual 314, 3) := by decide +kernel
theorem dX11_filling_17 : decode cX11_filling 17 = .ok (.ireturn, 1) := by decide +kernel
set_option maxRecDepth 100000 in
set_option maxHeartbeats 4000000 in
theorem m_X11_filling (l : Launch) (D : va_G) (ct : Nat → ClassId) (S : ty_S) (ws : va_W) (ph : va_W → Prop) (xx : Nat → Nat → Nat → Prop) (mo : Nat) (mw : Nat) (ma : Nat) (mf : Nat) (m0 : Nat) (m1 : Nat) (mu : Nat) (mv : Nat) (u0 : Nat) (u1 : Nat) (iz : Nat) (mb : Nat) (th : Int32) (mn : Int32) (mpt : Int32) (mbg : Int32) (mwr : Int32) (mwk : Int32) (mlf : Int32) (men : Int32) (f : Nat → Int32) (G : Nat → Int32) (cx : Int) (p1 : Int32) (sz : Nat) (hT : ty_V ct S ph ws) (h_mu : S mu = some (.inr (1, 42))) (h_mv : S mv = some (.inr (1, 42))) (h_u0 : S u0 = some (.inr (1, 42))) (h_u1 : S u1 = some (.inr (1, 42))) (hph : ty_C ph xx) (hy1 : ty_y1 xx) (hR : rf_R G cx f) : Met l yX11_filling (ws_ yX11_filling cX11_filling 2 (some .int)) ({ frames := 2, cells := 0, slots := 0, locals := 46 } : Room) (va_Pc [.ref mo, .int p1] (cmP D ct sz ([(rf_MO mo mw ma mf m0 m1 mu mv u0 u1 iz th mb mn mpt mbg mwr mwk mlf men), (rf_RW ct 0 mw 958 f)] ++ ws))) (va_Qi (fun (r : Int32) (u : va_W × Int32) => match u with | (u9, th1) => ty_V ct S ph u9) (cmB D ([(rf_MO mo mw ma mf m0 m1 mu mv u0 u1 iz th mb mn mpt mbg mwr mwk mlf men), (rf_RW ct 0 mw 958 f)] ++ ws) sz (fun (u : va_W × Int32) => match u with | (u9, th1) => ([(rf_MO mo mw ma mf m0 m1 mu mv u0 u1 iz th1 mb mn mpt mbg mwr mwk mlf men), (rf_RW ct 0 mw 958 f)] ++ u9))) (va_A ([(rf_MO mo mw ma mf m0 m1 mu mv u0 u1 iz th mb mn mpt mbg mwr mwk mlf men), (rf_RW ct 0 mw 958 f)] ++ ws) sz)) 0 0 (va_A ([(rf_MO mo mw ma mf m0 m1 mu mv u0 u1 iz th mb mn mpt mbg mwr mwk mlf men), (rf_RW ct 0 mw 958 f)] ++ ws) sz) := by
  refine Met.ofW (cc := cX11_filling) (maxL := 2) (ret := (some .int)) (by decide) rfl ?_
  intro p e s m args below meth c s₁ B hml hv
  obtain ⟨rfl, hsz, hP, hK, hD0, hX⟩ := hv
  have hx := B.exec
  have hb := B.bytes
  have hr := B.returns
  have hts := ws_all (atoms_spec (ws := ws_ yX11_filling cX11_filling 2 (some .int)) B.pre)
  have hown : s.vm.findClass RX11 = some m.cls := findClass_of_methodNamed B.named
  have hlocks := B.notSynchronized
  subst hsz
  have hD := hD0.self (sz := s.heap.size)
  generalize hAe : va_A ([(rf_MO mo mw ma mf m0 m1 mu mv u0 u1 iz th mb mn mpt mbg mwr mwk mlf men), (rf_RW ct 0 mw 958 f)] ++ ws) s.heap.size = A at hD hX ⊢
  have hA : ∀ q : Nat, s.heap.size ≤ q → A q := fun q h => by rw [← hAe]; exact Or.inr h
  have hS : va_S A s.heap s.heap [] := va_S.rf
  have hl := lv_entry ([.ref mo, .int p1]) (n := 2) (Nat.le_of_ble_eq_true rfl)
  rw [lg_entry_eq]
  generalize (lg_sl ([.ref mo, .int p1]) ++ List.replicate (2 - (lg_sl ([.ref mo, .int p1])).length) Slot.unset).toArray = ls at hl ⊢
  have hl : lv_has ls 2 [(0, .ref mo), (1, .int p1)] := hl
  refine lv_aload_n hx hb dX11_filling_0 rfl (lv_at hl 0 rfl) ?_
  refine lv_iload_n hx hb dX11_filling_1 rfl (lv_at hl 1 rfl) ?_
  refine ty_ki (wr := []) (wc := ([(rf_MO mo mw ma mf m0 m1 mu mv u0 u1 iz th mb mn mpt mbg mwr mwk mlf men), (rf_RW ct 0 mw 958 f)] ++ ws)) (va_runV (As := [.int p1]) (rest := []) ⟨hx, hb, hml, hown, hts⟩ (m_X11_noChannel l D ct S ws ph xx mo mw ma mf m0 m1 mu mv u0 u1 iz mb th mn mpt mbg mwr mwk mlf men f G cx p1 _ hT h_mu h_mv h_u0 h_u1 hph hy1 hR) (cm_V 1 hts kc_X11_noChannel ki_RX11 kl_RX11_344 kv_X11_noChannel kx_X11_noChannel kd_X11_noChannel ⟨Nat.le_of_ble_eq_true rfl, Nat.le_of_ble_eq_true rfl⟩) (ty_preE (wr := []) (wc := ([(rf_MO mo mw ma mf m0 m1 mu mv u0 u1 iz th mb mn mpt mbg mwr mwk mlf men), (rf_RW ct 0 mw 958 f)] ++ ws)) (ci := 11) (q0 := 0) hP hK hD hS hA hX rfl rfl) rfl rfl hl.1 rfl (lv_room (Nat.le_of_ble_eq_true rfl)) dX11_filling_2 ⟨Nat.le_of_ble_eq_true rfl, Nat.le_of_ble_eq_true rfl⟩) hP hD hS hA (fun r_1 u H locs hw_2 hP hD hS => ?_)
  obtain ⟨ws_3, th1_4⟩ := u
  obtain ⟨hT, hp_5⟩ := hw_2
  have hp_5 : ((r_1 = 0 ∧ 0 ≤ p1.toInt ∧ p1.toInt < (G 9).toInt) ∨ r_1 = 1) := hp_5
  have hP : va_P D vwCl ([(rf_MO mo mw ma mf m0 m1 mu mv u0 u1 iz th1_4 mb mn mpt mbg mwr mwk mlf men), (rf_RW ct 0 mw 958 f)] ++ ws_3) H := hP
  have hD : va_D A ([(rf_MO mo mw ma mf m0 m1 mu mv u0 u1 iz th1_4 mb mn mpt mbg mwr mwk mlf men), (rf_RW ct 0 mw 958 f)] ++ ws_3) := hD
  rcases hp_5 with ⟨rfl, hz_6⟩ | rfl
  · refine lv_if_eq (tgt := 12) hx hb dX11_filling_5 (by decide) (fun _ => ?_) (fun hc => absurd (by decide) hc)
    refine lv_aload_n hx hb dX11_filling_12 rfl (lv_at hl 0 rfl) ?_
    refine lv_iload_n hx hb dX11_filling_13 rfl (lv_at hl 1 rfl) ?_
    refine ty_ki (wr := []) (wc := ([(rf_MO mo mw ma mf m0 m1 mu mv u0 u1 iz th1_4 mb mn mpt mbg mwr mwk mlf men), (rf_RW ct 0 mw 958 f)] ++ ws_3)) (va_runV (As := [.int p1]) (rest := []) ⟨hx, hb, hml, hown, hts⟩ (m_X11_filled l D ct S ws_3 ph xx mo mw ma mf m0 m1 mu mv u0 u1 iz mb th1_4 mn mpt mbg mwr mwk mlf men f G cx p1 _ hT h_mu h_mv h_u0 h_u1 hph hy1 hR hz_6) (cm_V 1 hts kc_X11_filled ki_RX11 kl_RX11_314 kv_X11_filled kx_X11_filled kd_X11_filled ⟨Nat.le_of_ble_eq_true rfl, Nat.le_of_ble_eq_true rfl⟩) (ty_preE (wr := []) (wc := ([(rf_MO mo mw ma mf m0 m1 mu mv u0 u1 iz th1_4 mb mn mpt mbg mwr mwk mlf men), (rf_RW ct 0 mw 958 f)] ++ ws_3)) (ci := 11) (q0 := 0) hP hK hD hS hA hX rfl rfl) rfl rfl hl.1 rfl (lv_room (Nat.le_of_ble_eq_true rfl)) dX11_filling_14 ⟨Nat.le_of_ble_eq_true rfl, Nat.le_of_ble_eq_true rfl⟩) hP hD hS hA (fun r_7 u H locs hw_8 hP hD hS => ?_)
    obtain ⟨ws_9, rfl⟩ : ∃ z, z = u := ⟨_, rfl⟩
    obtain ⟨hT, hp_10⟩ := hw_8
    have hp_10 : 0 ≤ r_7.toInt := hp_10
    have hP : va_P D vwCl ([(rf_MO mo mw ma mf m0 m1 mu mv u0 u1 iz th1_4 mb mn mpt mbg mwr mwk mlf men), (rf_RW ct 0 mw 958 f)] ++ ws_9) H := hP
    have hD : va_D A ([(rf_MO mo mw ma mf m0 m1 mu mv u0 u1 iz th1_4 mb mn mpt mbg mwr mwk mlf men), (rf_RW ct 0 mw 958 f)] ++ ws_9) := hD
    exact W.iret (v := r_7) hx hb hr (fun t ht hW => ⟨⟨r_7, (ws_9, th1_4), rfl, hT, by rw [ht]; exact hP, by rw [hAe]; exact hD⟩, hS.F ht⟩) hS.2.2 dX11_filling_17
  · refine lv_if_eq (tgt := 12) hx hb dX11_filling_5 (by decide) (fun hc => absurd hc (by decide)) (fun _ => ?_)
    refine lv_iconst (v := 0) hx hb dX11_filling_8 (by decide) ?_
    refine lv_goto (tgt := 17) hx hb dX11_filling_9 (by decide) ?_
    exact W.iret (v := 0) hx hb hr (fun t ht hW => ⟨⟨0, (ws_3, th1_4), rfl, hT, by rw [ht]; exact hP, by rw [hAe]; exact hD⟩, hS.F ht⟩) hS.2.2 dX11_filling_17
theorem dX11_measuredRest_0 : decode cX11_measuredRest 0 = .ok (.aload_n 0, 1) := by decide +kernel
theorem dX11_measuredRest_1 : decode cX11_measuredRest 1 = .ok (.iload_n 1, 1) := by decide +kernel
theorem dX11_measuredRest_2 : decode cX11_measuredRest 2 = .ok (.invokevirtual 344, 3) := by decide +kernel
theorem dX11_measuredRest_5 : decode cX11_measuredRest 5 = .ok (.ifCond .eq 7, 3) := by decide +kernel
theorem dX11_measuredRest_8 : decode cX11_measuredRest 8 = .ok (.iconst 0, 1) := by decide +kernel
theorem dX11_measuredRest_9 : decode cX11_measuredRest 9 = .ok (.goto 10, 3) := by decide +kernel
theorem dX11_measuredRest_12 : decode cX11_measuredRest 12 = .ok (.aload_n 0, 1) := by decide +kernel
theorem dX11_measuredRest_13 : decode cX11_measuredRest 13 = .ok (.iload_n 1, 1) := by decide +kernel
theorem dX11_measuredRest_14 : decode cX11_measuredRest 14 = .ok (.bipush 19, 2) := by decide +kernel
theorem dX11_measuredRest_16 : decode cX11_measuredRest 16 = .ok (.invokevirtual 209, 3) := by decide +kernel
theorem dX11_measuredRest_19 : decode cX11_measuredRest 19 = .ok (.ireturn, 1) := by decide +kernel
set_option maxRecDepth 100000 in
set_option maxHeartbeats 4000000 in
theorem m_X11_measuredRest (l : Launch) (D : va_G) (ct : Nat → ClassId) (S : ty_S) (ws : va_W) (ph : va_W → Prop) (xx : Nat → Nat → Nat → Prop) (mo : Nat) (mw : Nat) (ma : Nat) (mf : Nat) (m0 : Nat) (m1 : Nat) (mu : Nat) (mv : Nat) (u0 : Nat) (u1 : Nat) (iz : Nat) (mb : Nat) (th : Int32) (mn : Int32) (mpt : Int32) (mbg : Int32) (mwr : Int32) (mwk : Int32) (mlf : Int32) (men : Int32) (f : Nat → Int32) (G : Nat → Int32) (cx : Int) (p1 : Int32) (sz : Nat) (hT : ty_V ct S ph ws) (h_mu : S mu = some (.inr (1, 42))) (h_mv : S mv = some (.inr (1, 42))) (h_u0 : S u0 = some (.inr (1, 42))) (h_u1 : S u1 = some (.inr (1, 42))) (hph : ty_C ph xx) (hy1 : ty_y1 xx) (hR : rf_R G cx f) : Met l yX11_measuredRest (ws_ yX11_measuredRest cX11_measuredRest 2 (some .int)) ({ frames := 2, cells := 0, slots := 0, locals := 46 } : Room) (va_Pc [.ref mo, .int p1] (cmP D ct sz ([(rf_MO mo mw ma mf m0 m1 mu mv u0 u1 iz th mb mn mpt mbg mwr mwk mlf men), (rf_RW ct 0 mw 958 f)] ++ ws))) (va_Qi (fun (r : Int32) (u : va_W × Int32) => match u with | (u9, th1) => ty_V ct S ph u9) (cmB D ([(rf_MO mo mw ma mf m0 m1 mu mv u0 u1 iz th mb mn mpt mbg mwr mwk mlf men), (rf_RW ct 0 mw 958 f)] ++ ws) sz (fun (u : va_W × Int32) => match u with | (u9, th1) => ([(rf_MO mo mw ma mf m0 m1 mu mv u0 u1 iz th1 mb mn mpt mbg mwr mwk mlf men), (rf_RW ct 0 mw 958 f)] ++ u9))) (va_A ([(rf_MO mo mw ma mf m0 m1 mu mv u0 u1 iz th mb mn mpt mbg mwr mwk mlf men), (rf_RW ct 0 mw 958 f)] ++ ws) sz)) 0 0 (va_A ([(rf_MO mo mw ma mf m0 m1 mu mv u0 u1 iz th mb mn mpt mbg mwr mwk mlf men), (rf_RW ct 0 mw 958 f)] ++ ws) sz) := by
  refine Met.ofW (cc := cX11_measuredRest) (maxL := 2) (ret := (some .int)) (by decide) rfl ?_
  intro p e s m args below meth c s₁ B hml hv
  obtain ⟨rfl, hsz, hP, hK, hD0, hX⟩ := hv
  have hx := B.exec
  have hb := B.bytes
  have hr := B.returns
  have hts := ws_all (atoms_spec (ws := ws_ yX11_measuredRest cX11_measuredRest 2 (some .int)) B.pre)
  have hown : s.vm.findClass RX11 = some m.cls := findClass_of_methodNamed B.named
  have hlocks := B.notSynchronized
  subst hsz
  have hD := hD0.self (sz := s.heap.size)
  generalize hAe : va_A ([(rf_MO mo mw ma mf m0 m1 mu mv u0 u1 iz th mb mn mpt mbg mwr mwk mlf men), (rf_RW ct 0 mw 958 f)] ++ ws) s.heap.size = A at hD hX ⊢
  have hA : ∀ q : Nat, s.heap.size ≤ q → A q := fun q h => by rw [← hAe]; exact Or.inr h
  have hS : va_S A s.heap s.heap [] := va_S.rf
  have hl := lv_entry ([.ref mo, .int p1]) (n := 2) (Nat.le_of_ble_eq_true rfl)
  rw [lg_entry_eq]
  generalize (lg_sl ([.ref mo, .int p1]) ++ List.replicate (2 - (lg_sl ([.ref mo, .int p1])).length) Slot.unset).toArray = ls at hl ⊢
  have hl : lv_has ls 2 [(0, .ref mo), (1, .int p1)] := hl
  refine lv_aload_n hx hb dX11_measuredRest_0 rfl (lv_at hl 0 rfl) ?_
  refine lv_iload_n hx hb dX11_measuredRest_1 rfl (lv_at hl 1 rfl) ?_
  refine ty_ki (wr := []) (wc := ([(rf_MO mo mw ma mf m0 m1 mu mv u0 u1 iz th mb mn mpt mbg mwr mwk mlf men), (rf_RW ct 0 mw 958 f)] ++ ws)) (va_runV (As := [.int p1]) (rest := []) ⟨hx, hb, hml, hown, hts⟩ (m_X11_noChannel l D ct S ws ph xx mo mw ma mf m0 m1 mu mv u0 u1 iz mb th mn mpt mbg mwr mwk mlf men f G cx p1 _ hT h_mu h_mv h_u0 h_u1 hph hy1 hR) (cm_V 1 hts kc_X11_noChannel ki_RX11 kl_RX11_344 kv_X11_noChannel kx_X11_noChannel kd_X11_noChannel ⟨Nat.le_of_ble_eq_true rfl, Nat.le_of_ble_eq_true rfl⟩) (ty_preE (wr := []) (wc := ([(rf_MO mo mw ma mf m0 m1 mu mv u0 u1 iz th mb mn mpt mbg mwr mwk mlf men), (rf_RW ct 0 mw 958 f)] ++ ws)) (ci := 11) (q0 := 0) hP hK hD hS hA hX rfl rfl) rfl rfl hl.1 rfl (lv_room (Nat.le_of_ble_eq_true rfl)) dX11_measuredRest_2 ⟨Nat.le_of_ble_eq_true rfl, Nat.le_of_ble_eq_true rfl⟩) hP hD hS hA (fun r_1 u H locs hw_2 hP hD hS => ?_)
  obtain ⟨ws_3, th1_4⟩ := u
  obtain ⟨hT, hp_5⟩ := hw_2
  have hp_5 : ((r_1 = 0 ∧ 0 ≤ p1.toInt ∧ p1.toInt < (G 9).toInt) ∨ r_1 = 1) := hp_5
  have hP : va_P D vwCl ([(rf_MO mo mw ma mf m0 m1 mu mv u0 u1 iz th1_4 mb mn mpt mbg mwr mwk mlf men), (rf_RW ct 0 mw 958 f)] ++ ws_3) H := hP
  have hD : va_D A ([(rf_MO mo mw ma mf m0 m1 mu mv u0 u1 iz th1_4 mb mn mpt mbg mwr mwk mlf men), (rf_RW ct 0 mw 958 f)] ++ ws_3) := hD
  rcases hp_5 with ⟨rfl, hz_6⟩ | rfl
  · refine lv_if_eq (tgt := 12) hx hb dX11_measuredRest_5 (by decide) (fun _ => ?_) (fun hc => absurd (by decide) hc)
    refine lv_aload_n hx hb dX11_measuredRest_12 rfl (lv_at hl 0 rfl) ?_
    refine lv_iload_n hx hb dX11_measuredRest_13 rfl (lv_at hl 1 rfl) ?_
    refine lv_bipush (v := 19) hx hb dX11_measuredRest_14 (by decide) ?_
    refine ty_ki (wr := []) (wc := ([(rf_MO mo mw ma mf m0 m1 mu mv u0 u1 iz th1_4 mb mn mpt mbg mwr mwk mlf men), (rf_RW ct 0 mw 958 f)] ++ ws_3)) (va_runV (As := [.int p1, .int 19]) (rest := []) ⟨hx, hb, hml, hown, hts⟩ (m_of_19 l D ct S ws_3 ph xx mo mw ma mf m0 m1 mu mv u0 u1 iz mb th1_4 mn mpt mbg mwr mwk mlf men f G cx p1 _ hT h_mu h_mv h_u0 h_u1 hph hy1 hR hz_6) (cm_V 2 hts kc_X11_of ki_RX11 kl_RX11_209 kv_X11_of kx_X11_of kd_X11_of ⟨Nat.le_of_ble_eq_true rfl, Nat.le_of_ble_eq_true rfl⟩) (ty_preE (wr := []) (wc := ([(rf_MO mo mw ma mf m0 m1 mu mv u0 u1 iz th1_4 mb mn mpt mbg mwr mwk mlf men), (rf_RW ct 0 mw 958 f)] ++ ws_3)) (ci := 11) (q0 := 0) hP hK hD hS hA hX rfl rfl) rfl rfl hl.1 rfl (lv_room (Nat.le_of_ble_eq_true rfl)) dX11_measuredRest_16 ⟨Nat.le_of_ble_eq_true rfl, Nat.le_of_ble_eq_true rfl⟩) hP hD hS hA (fun r_7 u H locs hw_8 hP hD hS => ?_)
    obtain ⟨ws_9, rfl⟩ : ∃ z, z = u := ⟨_, rfl⟩
    obtain ⟨hT, rfl⟩ := hw_8
    have hP : va_P D vwCl ([(rf_MO mo mw ma mf m0 m1 mu mv u0 u1 iz th1_4 mb mn mpt mbg mwr mwk mlf men), (rf_RW ct 0 mw 958 f)] ++ ws_9) H := hP
    have hD : va_D A ([(rf_MO mo mw ma mf m0 m1 mu mv u0 u1 iz th1_4 mb mn mpt mbg mwr mwk mlf men), (rf_RW ct 0 mw 958 f)] ++ ws_9) := hD
    exact W.iret (v := (rf_of f p1 19)) hx hb hr (fun t ht hW => ⟨⟨(rf_of f p1 19), (ws_9, th1_4), rfl, hT, by rw [ht]; exact hP, by rw [hAe]; exact hD⟩, hS.F ht⟩) hS.2.2 dX11_measuredRest_19
  · refine lv_if_eq (tgt := 12) hx hb dX11_measuredRest_5 (by decide) (fun hc => absurd hc (by decide)) (fun _ => ?_)
    refine lv_iconst (v := 0) hx hb dX11_measuredRest_8 (by decide) ?_
    refine lv_goto (tgt := 19) hx hb dX11_measuredRest_9 (by decide) ?_
    exact W.iret (v := 0) hx hb hr (fun t ht hW => ⟨⟨0, (ws_3, th1_4), rfl, hT, by rw [ht]; exact hP, by rw [hAe]; exact hD⟩, hS.F ht⟩) hS.2.2 dX11_measuredRest_19
theorem dX11_capacityByRule_0 : decode cX11_capacityByRule 0 = .ok (.aload_n 0, 1) := by decide +kernel
theorem dX11_capacityByRule_1 : decode cX11_capacityByRule 1 = .ok (.iload_n 1, 1) := by decide +kernel
theorem dX11_capacityByRule_2 : decode cX11_capacityByRule 2 = .ok (.invokevirtual 344, 3) := by decide +kernel
theorem dX11_capacityByRule_5 : decode cX11_capacityByRule 5 = .ok (.ifCond .eq 7, 3) := by decide +kernel
theorem dX11_capacityByRule_8 : decode cX11_capacityByRule 8 = .ok (.iconst 0, 1) := by decide +kernel
theorem dX11_capacityByRule_9 : decode cX11_capacityByRule 9 = .ok (.goto 10, 3) := by decide +kernel
theorem dX11_capacityByRule_12 : decode cX11_capacityByRule 12 = .ok (.aload_n 0, 1) := by decide +kernel
theorem dX11_capacityByRule_13 : decode cX11_capacityByRule 13 = .ok (.iload_n 1, 1) := by decide +kernel
theorem dX11_capacityByRule_14 : decode cX11_capacityByRule 14 = .ok (.bipush 20, 2) := by decide +kernel
theorem dX11_capacityByRule_16 : decode cX11_capacityByRule 16 = .ok (.invokevirtual 209, 3) := by decide +kernel
theorem dX11_capacityByRule_19 : decode cX11_capacityByRule 19 = .ok (.ireturn, 1) := by decide +kernel
set_option maxRecDepth 100000 in
set_option maxHeartbeats 4000000 in
theorem m_X11_capacityByRule (l : Launch) (D : va_G) (ct : Nat → ClassId) (S : ty_S) (ws : va_W) (ph : va_W → Prop) (xx : Nat → Nat → Nat → Prop) (mo : Nat) (mw : Nat) (ma : Nat) (mf : Nat) (m0 : Nat) (m1 : Nat) (mu : Nat) (mv : Nat) (u0 : Nat) (u1 : Nat) (iz : Nat) (mb : Nat) (th : Int32) (mn : Int32) (mpt : Int32) (mbg : Int32) (mwr : Int32) (mwk : Int32) (mlf : Int32) (men : Int32) (f : Nat → Int32) (G : Nat → Int32) (cx : Int) (p1 : Int32) (sz : Nat) (hT : ty_V ct S ph ws) (h_mu : S mu = some (.inr (1, 42))) (h_mv : S mv = some (.inr (1, 42))) (h_u0 : S u0 = some (.inr (1, 42))) (h_u1 : S u1 = some (.inr (1, 42))) (hph : ty_C ph xx) (hy1 : ty_y1 xx) (hR : rf_R G cx f) : Met l yX11_capacityByRule (ws_ yX11_capacityByRule cX11_capacityByRule 2 (some .int)) ({ frames := 2, cells := 0, slots := 0, locals := 46 } : Room) (va_Pc [.ref mo, .int p1] (cmP D ct sz ([(rf_MO mo mw ma mf m0 m1 mu mv u0 u1 iz th mb mn mpt mbg mwr mwk mlf men), (rf_RW ct 0 mw 958 f)] ++ ws))) (va_Qi (fun (r : Int32) (u : va_W × Int32) => match u with | (u9, th1) => ty_V ct S ph u9) (cmB D ([(rf_MO mo mw ma mf m0 m1 mu mv u0 u1 iz th mb mn mpt mbg mwr mwk mlf men), (rf_RW ct 0 mw 958 f)] ++ ws) sz (fun (u : va_W × Int32) => match u with | (u9, th1) => ([(rf_MO mo mw ma mf m0 m1 mu mv u0 u1 iz th1 mb mn mpt mbg mwr mwk mlf men), (rf_RW ct 0 mw 958 f)] ++ u9))) (va_A ([(rf_MO mo mw ma mf m0 m1 mu mv u0 u1 iz th mb mn mpt mbg mwr mwk mlf men), (rf_RW ct 0 mw 958 f)] ++ ws) sz)) 0 0 (va_A ([(rf_MO mo mw ma mf m0 m1 mu mv u0 u1 iz th mb mn mpt mbg mwr mwk mlf men), (rf_RW ct 0 mw 958 f)] ++ ws) sz) := by
  refine Met.ofW (cc := cX11_capacityByRule) (maxL := 2) (ret := (some .int)) (by decide) rfl ?_
  intro p e s m args below meth c s₁ B hml hv
  obtain ⟨rfl, hsz, hP, hK, hD0, hX⟩ := hv
  have hx := B.exec
  have hb := B.bytes
  have hr := B.returns
  have hts := ws_all (atoms_spec (ws := ws_ yX11_capacityByRule cX11_capacityByRule 2 (some .int)) B.pre)
  have hown : s.vm.findClass RX11 = some m.cls := findClass_of_methodNamed B.named
  have hlocks := B.notSynchronized
  subst hsz
  have hD := hD0.self (sz := s.heap.size)
  generalize hAe : va_A ([(rf_MO mo mw ma mf m0 m1 mu mv u0 u1 iz th mb mn mpt mbg mwr mwk mlf men), (rf_RW ct 0 mw 958 f)] ++ ws) s.heap.size = A at hD hX ⊢
  have hA : ∀ q : Nat, s.heap.size ≤ q → A q := fun q h => by rw [← hAe]; exact Or.inr h
  have hS : va_S A s.heap s.heap [] := va_S.rf
  have hl := lv_entry ([.ref mo, .int p1]) (n := 2) (Nat.le_of_ble_eq_true rfl)
  rw [lg_entry_eq]
  generalize (lg_sl ([.ref mo, .int p1]) ++ List.replicate (2 - (lg_sl ([.ref mo, .int p1])).length) Slot.unset).toArray = ls at hl ⊢
  have hl : lv_has ls 2 [(0, .ref mo), (1, .int p1)] := hl
  refine lv_aload_n hx hb dX11_capacityByRule_0 rfl (lv_at hl 0 rfl) ?_
  refine lv_iload_n hx hb dX11_capacityByRule_1 rfl (lv_at hl 1 rfl) ?_
  refine ty_ki (wr := []) (wc := ([(rf_MO mo mw ma mf m0 m1 mu mv u0 u1 iz th mb mn mpt mbg mwr mwk mlf men), (rf_RW ct 0 mw 958 f)] ++ ws)) (va_runV (As := [.int p1]) (rest := []) ⟨hx, hb, hml, hown, hts⟩ (m_X11_noChannel l D ct S ws ph xx mo mw ma mf m0 m1 mu mv u0 u1 iz mb th mn mpt mbg mwr mwk mlf men f G cx p1 _ hT h_mu h_mv h_u0 h_u1 hph hy1 hR) (cm_V 1 hts kc_X11_noChannel ki_RX11 kl_RX11_344 kv_X11_noChannel kx_X11_noChannel kd_X11_noChannel ⟨Nat.le_of_ble_eq_true rfl, Nat.le_of_ble_eq_true rfl⟩) (ty_preE (wr := []) (wc := ([(rf_MO mo mw ma mf m0 m1 mu mv u0 u1 iz th mb mn mpt mbg mwr mwk mlf men), (rf_RW ct 0 mw 958 f)] ++ ws)) (ci := 11) (q0 := 0) hP hK hD hS hA hX rfl rfl) rfl rfl hl.1 rfl (lv_room (Nat.le_of_ble_eq_true rfl)) dX11_capacityByRule_2 ⟨Nat.le_of_ble_eq_true rfl, Nat.le_of_ble_eq_true rfl⟩) hP hD hS hA (fun r_1 u H locs hw_2 hP hD hS => ?_)
  obtain ⟨ws_3, th1_4⟩ := u
  obtain ⟨hT, hp_5⟩ := hw_2
  have hp_5 : ((r_1 = 0 ∧ 0 ≤ p1.toInt ∧ p1.toInt < (G 9).toInt) ∨ r_1 = 1) := hp_5
  have hP : va_P D vwCl ([(rf_MO mo mw ma mf m0 m1 mu mv u0 u1 iz th1_4 mb mn mpt mbg mwr mwk mlf men), (rf_RW ct 0 mw 958 f)] ++ ws_3) H := hP
  have hD : va_D A ([(rf_MO mo mw ma mf m0 m1 mu mv u0 u1 iz th1_4 mb mn mpt mbg mwr mwk mlf men), (rf_RW ct 0 mw 958 f)] ++ ws_3) := hD
  rcases hp_5 with ⟨rfl, hz_6⟩ | rfl
  · refine lv_if_eq (tgt := 12) hx hb dX11_capacityByRule_5 (by decide) (fun _ => ?_) (fun hc => absurd (by decide) hc)
    refine lv_aload_n hx hb dX11_capacityByRule_12 rfl (lv_at hl 0 rfl) ?_
    refine lv_iload_n hx hb dX11_capacityByRule_13 rfl (lv_at hl 1 rfl) ?_
    refine lv_bipush (v := 20) hx hb dX11_capacityByRule_14 (by decide) ?_
    refine ty_ki (wr := []) (wc := ([(rf_MO mo mw ma mf m0 m1 mu mv u0 u1 iz th1_4 mb mn mpt mbg mwr mwk mlf men), (rf_RW ct 0 mw 958 f)] ++ ws_3)) (va_runV (As := [.int p1, .int 20]) (rest := []) ⟨hx, hb, hml, hown, hts⟩ (m_of_20 l D ct S ws_3 ph xx mo mw ma mf m0 m1 mu mv u0 u1 iz mb th1_4 mn mpt mbg mwr mwk mlf men f G cx p1 _ hT h_mu h_mv h_u0 h_u1 hph hy1 hR hz_6) (cm_V 2 hts kc_X11_of ki_RX11 kl_RX11_209 kv_X11_of kx_X11_of kd_X11_of ⟨Nat.le_of_ble_eq_true rfl, Nat.le_of_ble_eq_true rfl⟩) (ty_preE (wr := []) (wc := ([(rf_MO mo mw ma mf m0 m1 mu mv u0 u1 iz th1_4 mb mn mpt mbg mwr mwk mlf men), (rf_RW ct 0 mw 958 f)] ++ ws_3)) (ci := 11) (q0 := 0) hP hK hD hS hA hX rfl rfl) rfl rfl hl.1 rfl (lv_room (Nat.le_of_ble_eq_true rfl)) dX11_capacityByRule_16 ⟨Nat.le_of_ble_eq_true rfl, Nat.le_of_ble_eq_true rfl⟩) hP hD hS hA (fun r_7 u H locs hw_8 hP hD hS => ?_)
    obtain ⟨ws_9, rfl⟩ : ∃ z, z = u := ⟨_, rfl⟩
    obtain ⟨hT, rfl⟩ := hw_8
    have hP : va_P D vwCl ([(rf_MO mo mw ma mf m0 m1 mu mv u0 u1 iz th1_4 mb mn mpt mbg mwr mwk mlf men), (rf_RW ct 0 mw 958 f)] ++ ws_9) H := hP
    have hD : va_D A ([(rf_MO mo mw ma mf m0 m1 mu mv u0 u1 iz th1_4 mb mn mpt mbg mwr mwk mlf men), (rf_RW ct 0 mw 958 f)] ++ ws_9) := hD
    exact W.iret (v := (rf_of f p1 20)) hx hb hr (fun t ht hW => ⟨⟨(rf_of f p1 20), (ws_9, th1_4), rfl, hT, by rw [ht]; exact hP, by rw [hAe]; exact hD⟩, hS.F ht⟩) hS.2.2 dX11_capacityByRule_19
  · refine lv_if_eq (tgt := 12) hx hb dX11_capacityByRule_5 (by decide) (fun hc => absurd hc (by decide)) (fun _ => ?_)
    refine lv_iconst (v := 0) hx hb dX11_capacityByRule_8 (by decide) ?_
    refine lv_goto (tgt := 19) hx hb dX11_capacityByRule_9 (by decide) ?_
    exact W.iret (v := 0) hx hb hr (fun t ht hW => ⟨⟨0, (ws_3, th1_4), rfl, hT, by rw [ht]; exact hP, by rw [hAe]; exact hD⟩, hS.F ht⟩) hS.2.2 dX11_capacityByRule_19
theorem dX11_power_0 : decode cX11_power 0 = .ok (.aload_n 0, 1) := by decide +kernel
theorem dX11_power_1 : decode cX11_power 1 = .ok (.iload_n 1, 1) := by decide +kernel
theorem dX11_power_2 : decode cX11_power 2 = .ok (.invokevirtual 344, 3) := by decide +kernel
theorem dX11_power_5 : decode cX11_power 5 = .ok (.ifCond .eq 7, 3) := by decide +kernel
theorem dX11_power_8 : decode cX11_power 8 = .ok (.iconst 0, 1) := by decide +kernel
theorem dX11_power_9 : decode cX11_power 9 = .ok (.goto 23, 3) := by decide +kernel
theorem dX11_power_12 : decode cX11_power 12 = .ok (.aload_n 0, 1) := by decide +kernel
theorem dX11_power_13 : decode cX11_power 13 = .ok (.iload_n 1, 1) := by decide +kernel
theorem dX11_power_14 : decode cX11_power 14 = .ok (.iconst 4, 1) := by decide +kernel
theorem dX11_power_15 : decode cX11_power 15 = .ok (.invokevirtual 209, 3) := by decide +kernel
theorem dX11_power_18 : decode cX11_power 18 = .ok (.i2l, 1) := by decide +kernel
theorem dX11_power_19 : decode cX11_power 19 = .ok (.aload_n 0, 1) := by decide +kernel
theorem dX11_power_20 : decode cX11_power 20 = .ok (.iload_n 1, 1) := by decide +kernel
theorem dX11_power_21 : decode cX11_power 21 = .ok (.iconst 5, 1) := by decide +kernel
theorem dX11_power_22 : decode cX11_power 22 = .ok (.invokevirtual 209, 3) := by decide +kernel
theorem dX11_power_25 : decode cX11_power 25 = .ok (.i2l, 1) := by decide +kernel
theorem dX11_power_26 : decode cX11_power 26 = .ok (.lmul, 1) := by decide +kernel
theorem dX11_power_27 : decode cX11_power 27 = .ok (.ldc2_w 303, 3) := by decide +kernel
theorem dX11_power_30 : decode cX11_power 30 = .ok (.ldiv, 1) := by decide +kernel
theorem dX11_power_31 : decode cX11_power 31 = .ok (.l2i, 1) := by decide +kernel
theorem dX11_power_32 : decode cX11_power 32 = .ok (.ireturn, 1) := by decide +kernel
set_option maxRecDepth 100000 in
set_option maxHeartbeats 4000000 in
theorem m_X11_power (l : Launch) (D : va_G) (ct : Nat → ClassId) (S : ty_S) (ws : va_W) (ph : va_W → Prop) (xx : Nat → Nat → Nat → Prop) (mo : Nat) (mw : Nat) (ma : Nat) (mf : Nat) (m0 : Nat) (m1 : Nat) (mu : Nat) (mv : Nat) (u0 : Nat) (u1 : Nat) (iz : Nat) (mb : Nat) (th : Int32) (mn : Int32) (mpt : Int32) (mbg : Int32) (mwr : Int32) (mwk : Int32) (mlf : Int32) (men : Int32) (f : Nat → Int32) (G : Nat → Int32) (cx : Int) (p1 : Int32) (sz : Nat) (hT : ty_V ct S ph ws) (h_mu : S mu = some (.inr (1, 42))) (h_mv : S mv = some (.inr (1, 42))) (h_u0 : S u0 = some (.inr (1, 42))) (h_u1 : S u1 = some (.inr (1, 42))) (hph : ty_C ph xx) (hy1 : ty_y1 xx) (hR : rf_R G cx f) : Met l yX11_power (ws_ yX11_power cX11_power 2 (some .int)) ({ frames := 2, cells := 0, slots := 0, locals := 46 } : Room) (va_Pc [.ref mo, .int p1] (cmP D ct sz ([(rf_MO mo mw ma mf m0 m1 mu mv u0 u1 iz th mb mn mpt mbg mwr mwk mlf men), (rf_RW ct 0 mw 958 f)] ++ ws))) (va_Qi (fun (r : Int32) (u : va_W × Int32) => match u with | (u9, th1) => ty_V ct S ph u9) (cmB D ([(rf_MO mo mw ma mf m0 m1 mu mv u0 u1 iz th mb mn mpt mbg mwr mwk mlf men), (rf_RW ct 0 mw 958 f)] ++ ws) sz (fun (u : va_W × Int32) => match u with | (u9, th1) => ([(rf_MO mo mw ma mf m0 m1 mu mv u0 u1 iz th1 mb mn mpt mbg mwr mwk mlf men), (rf_RW ct 0 mw 958 f)] ++ u9))) (va_A ([(rf_MO mo mw ma mf m0 m1 mu mv u0 u1 iz th mb mn mpt mbg mwr mwk mlf men), (rf_RW ct 0 mw 958 f)] ++ ws) sz)) 0 0 (va_A ([(rf_MO mo mw ma mf m0 m1 mu mv u0 u1 iz th mb mn mpt mbg mwr mwk mlf men), (rf_RW ct 0 mw 958 f)] ++ ws) sz) := by
  refine Met.ofW (cc := cX11_power) (maxL := 2) (ret := (some .int)) (by decide) rfl ?_
  intro p e s m args below meth c s₁ B hml hv
  obtain ⟨rfl, hsz, hP, hK, hD0, hX⟩ := hv
  have hx := B.exec
  have hb := B.bytes
  have hr := B.returns
  have hts := ws_all (atoms_spec (ws := ws_ yX11_power cX11_power 2 (some .int)) B.pre)
  have hown : s.vm.findClass RX11 = some m.cls := findClass_of_methodNamed B.named
  have hlocks := B.notSynchronized
  subst hsz
  have hD := hD0.self (sz := s.heap.size)
  generalize hAe : va_A ([(rf_MO mo mw ma mf m0 m1 mu mv u0 u1 iz th mb mn mpt mbg mwr mwk mlf men), (rf_RW ct 0 mw 958 f)] ++ ws) s.heap.size = A at hD hX ⊢
  have hA : ∀ q : Nat, s.heap.size ≤ q → A q := fun q h => by rw [← hAe]; exact Or.inr h
  have hS : va_S A s.heap s.heap [] := va_S.rf
  have hl := lv_entry ([.ref mo, .int p1]) (n := 2) (Nat.le_of_ble_eq_true rfl)
  rw [lg_entry_eq]
  generalize (lg_sl ([.ref mo, .int p1]) ++ List.replicate (2 - (lg_sl ([.ref mo, .int p1])).length) Slot.unset).toArray = ls at hl ⊢
  have hl : lv_has ls 2 [(0, .ref mo), (1, .int p1)] := hl
  refine lv_aload_n hx hb dX11_power_0 rfl (lv_at hl 0 rfl) ?_
  refine lv_iload_n hx hb dX11_power_1 rfl (lv_at hl 1 rfl) ?_
  refine ty_ki (wr := []) (wc := ([(rf_MO mo mw ma mf m0 m1 mu mv u0 u1 iz th mb mn mpt mbg mwr mwk mlf men), (rf_RW ct 0 mw 958 f)] ++ ws)) (va_runV (As := [.int p1]) (rest := []) ⟨hx, hb, hml, hown, hts⟩ (m_X11_noChannel l D ct S ws ph xx mo mw ma mf m0 m1 mu mv u0 u1 iz mb th mn mpt mbg mwr mwk mlf men f G cx p1 _ hT h_mu h_mv h_u0 h_u1 hph hy1 hR) (cm_V 1 hts kc_X11_noChannel ki_RX11 kl_RX11_344 kv_X11_noChannel kx_X11_noChannel kd_X11_noChannel ⟨Nat.le_of_ble_eq_true rfl, Nat.le_of_ble_eq_true rfl⟩) (ty_preE (wr := []) (wc := ([(rf_MO mo mw ma mf m0 m1 mu mv u0 u1 iz th mb mn mpt mbg mwr mwk mlf men), (rf_RW ct 0 mw 958 f)] ++ ws)) (ci := 11) (q0 := 0) hP hK hD hS hA hX rfl rfl) rfl rfl hl.1 rfl (lv_room (Nat.le_of_ble_eq_true rfl)) dX11_power_2 ⟨Nat.le_of_ble_eq_true rfl, Nat.le_of_ble_eq_true rfl⟩) hP hD hS hA (fun r_1 u H locs hw_2 hP hD hS => ?_)
  obtain ⟨ws_3, th1_4⟩ := u
  obtain ⟨hT, hp_5⟩ := hw_2
  have hp_5 : ((r_1 = 0 ∧ 0 ≤ p1.toInt ∧ p1.toInt < (G 9).toInt) ∨ r_1 = 1) := hp_5
  have hP : va_P D vwCl ([(rf_MO mo mw ma mf m0 m1 mu mv u0 u1 iz th1_4 mb mn mpt mbg mwr mwk mlf men), (rf_RW ct 0 mw 958 f)] ++ ws_3) H := hP
  have hD : va_D A ([(rf_MO mo mw ma mf m0 m1 mu mv u0 u1 iz th1_4 mb mn mpt mbg mwr mwk mlf men), (rf_RW ct 0 mw 958 f)] ++ ws_3) := hD
  rcases hp_5 with ⟨rfl, hz_6⟩ | rfl
  · refine lv_if_eq (tgt := 12) hx hb dX11_power_5 (by decide) (fun _ => ?_) (fun hc => absurd (by decide) hc)
    refine lv_aload_n hx hb dX11_power_12 rfl (lv_at hl 0 rfl) ?_
    refine lv_iload_n hx hb dX11_power_13 rfl (lv_at hl 1 rfl) ?_
    refine lv_iconst (v := 4) hx hb dX11_power_14 (by decide) ?_
    refine ty_ki (wr := []) (wc := ([(rf_MO mo mw ma mf m0 m1 mu mv u0 u1 iz th1_4 mb mn mpt mbg mwr mwk mlf men), (rf_RW ct 0 mw 958 f)] ++ ws_3)) (va_runV (As := [.int p1, .int 4]) (rest := []) ⟨hx, hb, hml, hown, hts⟩ (m_of_4 l D ct S ws_3 ph xx mo mw ma mf m0 m1 mu mv u0 u1 iz mb th1_4 mn mpt mbg mwr mwk mlf men f G cx p1 _ hT h_mu h_mv h_u0 h_u1 hph hy1 hR hz_6) (cm_V 2 hts kc_X11_of ki_RX11 kl_RX11_209 kv_X11_of kx_X11_of kd_X11_of ⟨Nat.le_of_ble_eq_true rfl, Nat.le_of_ble_eq_true rfl⟩) (ty_preE (wr := []) (wc := ([(rf_MO mo mw ma mf m0 m1 mu mv u0 u1 iz th1_4 mb mn mpt mbg mwr mwk mlf men), (rf_RW ct 0 mw 958 f)] ++ ws_3)) (ci := 11) (q0 := 0) hP hK hD hS hA hX rfl rfl) rfl rfl hl.1 rfl (lv_room (Nat.le_of_ble_eq_true rfl)) dX11_power_15 ⟨Nat.le_of_ble_eq_true rfl, Nat.le_of_ble_eq_true rfl⟩) hP hD hS hA (fun r_7 u H locs hw_8 hP hD hS => ?_)
    obtain ⟨ws_9, rfl⟩ : ∃ z, z = u := ⟨_, rfl⟩
    obtain ⟨hT, rfl⟩ := hw_8
    have hP : va_P D vwCl ([(rf_MO mo mw ma mf m0 m1 mu mv u0 u1 iz th1_4 mb mn mpt mbg mwr mwk mlf men), (rf_RW ct 0 mw 958 f)] ++ ws_9) H := hP
    have hD : va_D A ([(rf_MO mo mw ma mf m0 m1 mu mv u0 u1 iz th1_4 mb mn mpt mbg mwr mwk mlf men), (rf_RW ct 0 mw 958 f)] ++ ws_9) := hD
    refine lv_i2l hx hb dX11_power_18 rfl ?_
    refine lv_topl (fun x_10 _ => ?_)
    refine lv_aload_n hx hb dX11_power_19 rfl (lv_at hl 0 rfl) ?_
    refine lv_iload_n hx hb dX11_power_20 rfl (lv_at hl 1 rfl) ?_
    refine lv_iconst (v := 5) hx hb dX11_power_21 (by decide) ?_
    refine ty_ki (wr := []) (wc := ([(rf_MO mo mw ma mf m0 m1 mu mv u0 u1 iz th1_4 mb mn mpt mbg mwr mwk mlf men), (rf_RW ct 0 mw 958 f)] ++ ws_9)) (va_runV (As := [.int p1, .int 5]) (rest := [.long x_10]) ⟨hx, hb, hml, hown, hts⟩ (m_of_5 l D ct S ws_9 ph xx mo mw ma mf m0 m1 mu mv u0 u1 iz mb th1_4 mn mpt mbg mwr mwk mlf men f G cx p1 _ hT h_mu h_mv h_u0 h_u1 hph hy1 hR hz_6) (cm_V 2 hts kc_X11_of ki_RX11 kl_RX11_209 kv_X11_of kx_X11_of kd_X11_of ⟨Nat.le_of_ble_eq_true rfl, Nat.le_of_ble_eq_true rfl⟩) (ty_preE (wr := []) (wc := ([(rf_MO mo mw ma mf m0 m1 mu mv u0 u1 iz th1_4 mb mn mpt mbg mwr mwk mlf men), (rf_RW ct 0 mw 958 f)] ++ ws_9)) (ci := 11) (q0 := 0) hP hK hD hS hA hX rfl rfl) rfl rfl hl.1 rfl (lv_room (Nat.le_of_ble_eq_true rfl)) dX11_power_22 ⟨Nat.le_of_ble_eq_true rfl, Nat.le_of_ble_eq_true rfl⟩) hP hD hS hA (fun r_11 u H locs hw_12 hP hD hS => ?_)
    obtain ⟨ws_13, rfl⟩ : ∃ z, z = u := ⟨_, rfl⟩
    obtain ⟨hT, rfl⟩ := hw_12
    have hP : va_P D vwCl ([(rf_MO mo mw ma mf m0 m1 mu mv u0 u1 iz th1_4 mb mn mpt mbg mwr mwk mlf men), (rf_RW ct 0 mw 958 f)] ++ ws_13) H := hP
    have hD : va_D A ([(rf_MO mo mw ma mf m0 m1 mu mv u0 u1 iz th1_4 mb mn mpt mbg mwr mwk mlf men), (rf_RW ct 0 mw 958 f)] ++ ws_13) := hD
    refine lv_i2l hx hb dX11_power_25 rfl ?_
    refine lv_topl (fun x_14 _ => ?_)
    refine lv_lmul hx hb dX11_power_26 ?_
    refine lv_topl (fun x_15 _ => ?_)
    refine lv_ldc2 hx hb hown (hts _ kl_RX11_303) dX11_power_27 ?_
    refine lv_ldiv hx hb dX11_power_30 (by decide) ?_
    refine lv_topl (fun x_16 _ => ?_)
    refine lv_l2i hx hb dX11_power_31 rfl ?_
    refine lv_topi (fun x_17 _ => ?_)
    exact W.iret (v := x_17) hx hb hr (fun t ht hW => ⟨⟨x_17, (ws_13, th1_4), rfl, hT, by rw [ht]; exact hP, by rw [hAe]; exact hD⟩, hS.F ht⟩) hS.2.2 dX11_power_32
  · refine lv_if_eq (tgt := 12) hx hb dX11_power_5 (by decide) (fun hc => absurd hc (by decide)) (fun _ => ?_)
    refine lv_iconst (v := 0) hx hb dX11_power_8 (by decide) ?_
    refine lv_goto (tgt := 32) hx hb dX11_power_9 (by decide) ?_
    exact W.iret (v := 0) hx hb hr (fun t ht hW => ⟨⟨0, (ws_3, th1_4), rfl, hT, by rw [ht]; exact hP, by rw [hAe]; exact hD⟩, hS.F ht⟩) hS.2.2 dX11_power_32
theorem dX11_value_0 : decode cX11_value 0 = .ok (.aload_n 0, 1) := by decide +kernel
theorem dX11_value_1 : decode cX11_value 1 = .ok (.iload_n 1, 1) := by decide +kernel
theorem dX11_value_2 : decode cX11_value 2 = .ok (.invokevirtual 344, 3) := by decide +kernel
theorem dX11_value_5 : decode cX11_value 5 = .ok (.ifCond .ne 28, 3) := by decide +kernel
theorem dX11_value_8 : decode cX11_value 8 = .ok (.aload_n 0, 1) := by decide +kernel
theorem dX11_value_9 : decode cX11_value 9 = .ok (.iload_n 2, 1) := by decide +kernel
theorem dX11_value_10 : decode cX11_value 10 = .ok (.i2l, 1) := by decide +kernel
theorem dX11_value_11 : decode cX11_value 11 = .ok (.lconst 0, 1) := by decide +kernel
theorem dX11_value_12 : decode cX11_value 12 = .ok (.ldc2_w 117, 3) := by decide +kernel
theorem dX11_value_15 : decode cX11_value 15 = .ok (.invokestatic 70, 3) := by decide +kernel
theorem dX11_value_18 : decode cX11_value 18 = .ok (.ifCond .ne 7, 3) := by decide +kernel
theorem dX11_value_21 : decode cX11_value 21 = .ok (.iconst 1, 1) := by decide +kernel
theorem dX11_value_22 : decode cX11_value 22 = .ok (.goto 4, 3) := by decide +kernel
theorem dX11_value_25 : decode cX11_value 25 = .ok (.iconst 0, 1) := by decide +kernel
theorem dX11_value_26 : decode cX11_value 26 = .ok (.iconst 2, 1) := by decide +kernel
theorem dX11_value_27 : decode cX11_value 27 = .ok (.invokevirtual 328, 3) := by decide +kernel
theorem dX11_value_30 : decode cX11_value 30 = .ok (.ifCond .eq 7, 3) := by decide +kernel
theorem dX11_value_33 : decode cX11_value 33 = .ok (.iconst 0, 1) := by decide +kernel
theorem dX11_value_34 : decode cX11_value 34 = .ok (.goto 9, 3) := by decide +kernel
theorem dX11_value_37 : decode cX11_value 37 = .ok (.aload_n 0, 1) := by decide +kernel
theorem dX11_value_38 : decode cX11_value 38 = .ok (.iload_n 1, 1) := by decide +kernel
theorem dX11_value_39 : decode cX11_value 39 = .ok (.iload_n 2, 1) := by decide +kernel
theorem dX11_value_40 : decode cX11_value 40 = .ok (.invokevirtual 209, 3) := by decide +kernel
theorem dX11_value_43 : decode cX11_value 43 = .ok (.ireturn, 1) := by decide +kernel
set_option maxRecDepth 100000 in
set_option maxHeartbeats 4000000 in
theorem m_X11_value (l : Launch) (D : va_G) (ct : Nat → ClassId) (S : ty_S) (ws : va_W) (ph : va_W → Prop) (xx : Nat → Nat → Nat → Prop) (mo : Nat) (mw : Nat) (ma : Nat) (mf : Nat) (m0 : Nat) (m1 : Nat) (mu : Nat) (mv : Nat) (u0 : Nat) (u1 : Nat) (iz : Nat) (mb : Nat) (th : Int32) (mn : Int32) (mpt : Int32) (mbg : Int32) (mwr : Int32) (mwk : Int32) (mlf : Int32) (men : Int32) (f : Nat → Int32) (G : Nat → Int32) (cx : Int) (p1 : Int32) (p2 : Int32) (sz : Nat) (hT : ty_V ct S ph ws) (h_mu : S mu = some (.inr (1, 42))) (h_mv : S mv = some (.inr (1, 42))) (h_u0 : S u0 = some (.inr (1, 42))) (h_u1 : S u1 = some (.inr (1, 42))) (hph : ty_C ph xx) (hy1 : ty_y1 xx) (hR : rf_R G cx f) : Met l yX11_value (ws_ yX11_value cX11_value 3 (some .int)) ({ frames := 2, cells := 0, slots := 0, locals := 46 } : Room) (va_Pc [.ref mo, .int p1, .int p2] (cmP D ct sz ([(rf_MO mo mw ma mf m0 m1 mu mv u0 u1 iz th mb mn mpt mbg mwr mwk mlf men), (rf_RW ct 0 mw 958 f)] ++ ws))) (va_Qi (fun (r : Int32) (u : va_W × Int32) => match u with | (u9, th1) => ty_V ct S ph u9) (cmB D ([(rf_MO mo mw ma mf m0 m1 mu mv u0 u1 iz th mb mn mpt mbg mwr mwk mlf men), (rf_RW ct 0 mw 958 f)] ++ ws) sz (fun (u : va_W × Int32) => match u with | (u9, th1) => ([(rf_MO mo mw ma mf m0 m1 mu mv u0 u1 iz th1 mb mn mpt mbg mwr mwk mlf men), (rf_RW ct 0 mw 958 f)] ++ u9))) (va_A ([(rf_MO mo mw ma mf m0 m1 mu mv u0 u1 iz th mb mn mpt mbg mwr mwk mlf men), (rf_RW ct 0 mw 958 f)] ++ ws) sz)) 0 0 (va_A ([(rf_MO mo mw ma mf m0 m1 mu mv u0 u1 iz th mb mn mpt mbg mwr mwk mlf men), (rf_RW ct 0 mw 958 f)] ++ ws) sz) := by
  refine Met.ofW (cc := cX11_value) (maxL := 3) (ret := (some .int)) (by decide) rfl ?_
  intro p e s m args below meth c s₁ B hml hv
  obtain ⟨rfl, hsz, hP, hK, hD0, hX⟩ := hv
  have hx := B.exec
  have hb := B.bytes
  have hr := B.returns
  have hts := ws_all (atoms_spec (ws := ws_ yX11_value cX11_value 3 (some .int)) B.pre)
  have hown : s.vm.findClass RX11 = some m.cls := findClass_of_methodNamed B.named
  have hlocks := B.notSynchronized
  subst hsz
  have hD := hD0.self (sz := s.heap.size)
  generalize hAe : va_A ([(rf_MO mo mw ma mf m0 m1 mu mv u0 u1 iz th mb mn mpt mbg mwr mwk mlf men), (rf_RW ct 0 mw 958 f)] ++ ws) s.heap.size = A at hD hX ⊢
  have hA : ∀ q : Nat, s.heap.size ≤ q → A q := fun q h => by rw [← hAe]; exact Or.inr h
  have hS : va_S A s.heap s.heap [] := va_S.rf
  have hl := lv_entry ([.ref mo, .int p1, .int p2]) (n := 3) (Nat.le_of_ble_eq_true rfl)
  rw [lg_entry_eq]
  generalize (lg_sl ([.ref mo, .int p1, .int p2]) ++ List.replicate (3 - (lg_sl ([.ref mo, .int p1, .int p2])).length) Slot.unset).toArray = ls at hl ⊢
  have hl : lv_has ls 3 [(0, .ref mo), (1, .int p1), (2, .int p2)] := hl
  refine lv_aload_n hx hb dX11_value_0 rfl (lv_at hl 0 rfl) ?_
  refine lv_iload_n hx hb dX11_value_1 rfl (lv_at hl 1 rfl) ?_
  refine ty_ki (wr := []) (wc := ([(rf_MO mo mw ma mf m0 m1 mu mv u0 u1 iz th mb mn mpt mbg mwr mwk mlf men), (rf_RW ct 0 mw 958 f)] ++ ws)) (va_runV (As := [.int p1]) (rest := []) ⟨hx, hb, hml, hown, hts⟩ (m_X11_noChannel l D ct S ws ph xx mo mw ma mf m0 m1 mu mv u0 u1 iz mb th mn mpt mbg mwr mwk mlf men f G cx p1 _ hT h_mu h_mv h_u0 h_u1 hph hy1 hR) (cm_V 1 hts kc_X11_noChannel ki_RX11 kl_RX11_344 kv_X11_noChannel kx_X11_noChannel kd_X11_noChannel ⟨Nat.le_of_ble_eq_true rfl, Nat.le_of_ble_eq_true rfl⟩) (ty_preE (wr := []) (wc := ([(rf_MO mo mw ma mf m0 m1 mu mv u0 u1 iz th mb mn mpt mbg mwr mwk mlf men), (rf_RW ct 0 mw 958 f)] ++ ws)) (ci := 11) (q0 := 0) hP hK hD hS hA hX rfl rfl) rfl rfl hl.1 rfl (lv_room (Nat.le_of_ble_eq_true rfl)) dX11_value_2 ⟨Nat.le_of_ble_eq_true rfl, Nat.le_of_ble_eq_true rfl⟩) hP hD hS hA (fun r_1 u H locs hw_2 hP hD hS => ?_)
  obtain ⟨ws_3, th1_4⟩ := u
  obtain ⟨hT, hp_5⟩ := hw_2
  have hp_5 : ((r_1 = 0 ∧ 0 ≤ p1.toInt ∧ p1.toInt < (G 9).toInt) ∨ r_1 = 1) := hp_5
  have hP : va_P D vwCl ([(rf_MO mo mw ma mf m0 m1 mu mv u0 u1 iz th1_4 mb mn mpt mbg mwr mwk mlf men), (rf_RW ct 0 mw 958 f)] ++ ws_3) H := hP
  have hD : va_D A ([(rf_MO mo mw ma mf m0 m1 mu mv u0 u1 iz th1_4 mb mn mpt mbg mwr mwk mlf men), (rf_RW ct 0 mw 958 f)] ++ ws_3) := hD
  rcases hp_5 with ⟨rfl, hz_6⟩ | rfl
  · refine lv_if_ne (tgt := 33) hx hb dX11_value_5 (by decide) (fun hc => absurd (by decide) hc) (fun _ => ?_)
    refine lv_aload_n hx hb dX11_value_8 rfl (lv_at hl 0 rfl) ?_
    refine lv_iload_n hx hb dX11_value_9 rfl (lv_at hl 2 rfl) ?_
    refine lv_i2l hx hb dX11_value_10 rfl ?_
    refine lv_lconst (v := 0) hx hb dX11_value_11 (by decide) ?_
    refine lv_ldc2 hx hb hown (hts _ kl_RX11_117) dX11_value_12 ?_
    refine ty_ki (wr := [(rf_MO mo mw ma mf m0 m1 mu mv u0 u1 iz th1_4 mb mn mpt mbg mwr mwk mlf men), (rf_RW ct 0 mw 958 f)]) (wc := ([] ++ ws_3)) (va_runS (As := [.long p2.toInt64, .long 0, .long 10]) (rest := [.ref mo]) ⟨hx, hb, hml, hown, hts⟩ (m_X11_in l D ct S ws_3 ph xx p2.toInt64 (0 : Int64) (10 : Int64) _ hT hph hy1) (cm_S 3 hts kc_X11_in ki_RX11 kl_RX11_70 ks_X11_in kd_X11_in ⟨Nat.le_of_ble_eq_true rfl, Nat.le_of_ble_eq_true rfl⟩) (ty_preS (wr := [(rf_MO mo mw ma mf m0 m1 mu mv u0 u1 iz th1_4 mb mn mpt mbg mwr mwk mlf men), (rf_RW ct 0 mw 958 f)]) (wc := ([] ++ ws_3)) hP hK hD hS hA hX) rfl rfl hl.1 rfl (lv_room (Nat.le_of_ble_eq_true rfl)) dX11_value_15 ⟨Nat.le_of_ble_eq_true rfl, Nat.le_of_ble_eq_true rfl⟩) hP hD hS hA (fun r_7 u H locs hw_8 hP hD hS => ?_)
    obtain ⟨ws_9, rfl⟩ : ∃ z, z = u := ⟨_, rfl⟩
    obtain ⟨hT, rfl⟩ := hw_8
    have hP : va_P D vwCl ([(rf_MO mo mw ma mf m0 m1 mu mv u0 u1 iz th1_4 mb mn mpt mbg mwr mwk mlf men), (rf_RW ct 0 mw 958 f)] ++ ws_9) H := hP
    have hD : va_D A ([(rf_MO mo mw ma mf m0 m1 mu mv u0 u1 iz th1_4 mb mn mpt mbg mwr mwk mlf men), (rf_RW ct 0 mw 958 f)] ++ ws_9) := hD
    refine lv_if_ne (tgt := 25) hx hb dX11_value_18 (by decide) (fun hc_10 => ?_) (fun hc_10 => ?_)
    · refine lv_iconst (v := 0) hx hb dX11_value_25 (by decide) ?_
      refine lv_iconst (v := 2) hx hb dX11_value_26 (by decide) ?_
      have hP : va_P D vwCl ([(rf_RW ct 0 mw 958 f), (rf_MO mo mw ma mf m0 m1 mu mv u0 u1 iz th1_4 mb mn mpt mbg mwr mwk mlf men)] ++ ws_9) H := ty_permP hP (ty_ordp (E := [(rf_MO mo mw ma mf m0 m1 mu mv u0 u1 iz th1_4 mb mn mpt mbg mwr mwk mlf men), (rf_RW ct 0 mw 958 f)]) (E2 := [(rf_RW ct 0 mw 958 f), (rf_MO mo mw ma mf m0 m1 mu mv u0 u1 iz th1_4 mb mn mpt mbg mwr mwk mlf men)]) (n := 2) [1, 0] rfl rfl (by decide))
      have hD : va_D A ([(rf_RW ct 0 mw 958 f), (rf_MO mo mw ma mf m0 m1 mu mv u0 u1 iz th1_4 mb mn mpt mbg mwr mwk mlf men)] ++ ws_9) := ty_permD hD (ty_ordp (E := [(rf_MO mo mw ma mf m0 m1 mu mv u0 u1 iz th1_4 mb mn mpt mbg mwr mwk mlf men), (rf_RW ct 0 mw 958 f)]) (E2 := [(rf_RW ct 0 mw 958 f), (rf_MO mo mw ma mf m0 m1 mu mv u0 u1 iz th1_4 mb mn mpt mbg mwr mwk mlf men)]) (n := 2) [1, 0] rfl rfl (by decide))
      refine ty_ki (wr := [(rf_RW ct 0 mw 958 f)]) (wc := ([(rf_MO mo mw ma mf m0 m1 mu mv u0 u1 iz th1_4 mb mn mpt mbg mwr mwk mlf men)] ++ ws_9)) (va_runV (As := [.int 0, .int 2]) (rest := []) ⟨hx, hb, hml, hown, hts⟩ (m_X11_throwsIf l D ct S ws_9 ph xx mo mw ma mf m0 m1 mu mv u0 u1 iz mb th1_4 mn mpt mbg mwr mwk mlf men (0 : Int32) (2 : Int32) _ hT h_mu h_mv h_u0 h_u1 hph hy1 (by decide)) (cm_V 2 hts kc_X11_throwsIf ki_RX11 kl_RX11_328 kv_X11_throwsIf kx_X11_throwsIf kd_X11_throwsIf ⟨Nat.le_of_ble_eq_true rfl, Nat.le_of_ble_eq_true rfl⟩) (ty_preE (wr := [(rf_RW ct 0 mw 958 f)]) (wc := ([(rf_MO mo mw ma mf m0 m1 mu mv u0 u1 iz th1_4 mb mn mpt mbg mwr mwk mlf men)] ++ ws_9)) (ci := 11) (q0 := 1) hP hK hD hS hA hX rfl rfl) rfl rfl hl.1 rfl (lv_room (Nat.le_of_ble_eq_true rfl)) dX11_value_27 ⟨Nat.le_of_ble_eq_true rfl, Nat.le_of_ble_eq_true rfl⟩) hP hD hS hA (fun r_11 u H locs hw_12 hP hD hS => ?_)
      obtain ⟨ws_13, th1_14⟩ := u
      obtain ⟨hT, hp_15⟩ := hw_12
      have hp_15 : ((r_11 = 0 ∧ (0 : Int32) = 0) ∨ r_11 = 1) := hp_15
      have hP : va_P D vwCl ([(rf_RW ct 0 mw 958 f), (rf_MO mo mw ma mf m0 m1 mu mv u0 u1 iz th1_14 mb mn mpt mbg mwr mwk mlf men)] ++ ws_13) H := hP
      have hD : va_D A ([(rf_RW ct 0 mw 958 f), (rf_MO mo mw ma mf m0 m1 mu mv u0 u1 iz th1_14 mb mn mpt mbg mwr mwk mlf men)] ++ ws_13) := hD
      rcases hp_15 with ⟨rfl, hz_16⟩ | rfl
      · refine lv_if_eq (tgt := 37) hx hb dX11_value_30 (by decide) (fun _ => ?_) (fun hc => absurd (by decide) hc)
        refine lv_aload_n hx hb dX11_value_37 rfl (lv_at hl 0 rfl) ?_
        refine lv_iload_n hx hb dX11_value_38 rfl (lv_at hl 1 rfl) ?_
        refine lv_iload_n hx hb dX11_value_39 rfl (lv_at hl 2 rfl) ?_
        have hP : va_P D vwCl ([(rf_MO mo mw ma mf m0 m1 mu mv u0 u1 iz th1_14 mb mn mpt mbg mwr mwk mlf men), (rf_RW ct 0 mw 958 f)] ++ ws_13) H := ty_permP hP (ty_ordp (E := [(rf_RW ct 0 mw 958 f), (rf_MO mo mw ma mf m0 m1 mu mv u0 u1 iz th1_14 mb mn mpt mbg mwr mwk mlf men)]) (E2 := [(rf_MO mo mw ma mf m0 m1 mu mv u0 u1 iz th1_14 mb mn mpt mbg mwr mwk mlf men), (rf_RW ct 0 mw 958 f)]) (n := 2) [1, 0] rfl rfl (by decide))
        have hD : va_D A ([(rf_MO mo mw ma mf m0 m1 mu mv u0 u1 iz th1_14 mb mn mpt mbg mwr mwk mlf men), (rf_RW ct 0 mw 958 f)] ++ ws_13) := ty_permD hD (ty_ordp (E := [(rf_RW ct 0 mw 958 f), (rf_MO mo mw ma mf m0 m1 mu mv u0 u1 iz th1_14 mb mn mpt mbg mwr mwk mlf men)]) (E2 := [(rf_MO mo mw ma mf m0 m1 mu mv u0 u1 iz th1_14 mb mn mpt mbg mwr mwk mlf men), (rf_RW ct 0 mw 958 f)]) (n := 2) [1, 0] rfl rfl (by decide))
        refine ty_ki (wr := []) (wc := ([(rf_MO mo mw ma mf m0 m1 mu mv u0 u1 iz th1_14 mb mn mpt mbg mwr mwk mlf men), (rf_RW ct 0 mw 958 f)] ++ ws_13)) (va_runV (As := [.int p1, .int p2]) (rest := []) ⟨hx, hb, hml, hown, hts⟩ (m_of_v l D ct S ws_13 ph xx mo mw ma mf m0 m1 mu mv u0 u1 iz mb th1_14 mn mpt mbg mwr mwk mlf men f G cx p1 p2 _ hT h_mu h_mv h_u0 h_u1 hph hy1 hR hz_6 (by have := (rf_rngc (L := 0) (U := 10) (by decide) (by decide) hc_10); omega)) (cm_V 2 hts kc_X11_of ki_RX11 kl_RX11_209 kv_X11_of kx_X11_of kd_X11_of ⟨Nat.le_of_ble_eq_true rfl, Nat.le_of_ble_eq_true rfl⟩) (ty_preE (wr := []) (wc := ([(rf_MO mo mw ma mf m0 m1 mu mv u0 u1 iz th1_14 mb mn mpt mbg mwr mwk mlf men), (rf_RW ct 0 mw 958 f)] ++ ws_13)) (ci := 11) (q0 := 0) hP hK hD hS hA hX rfl rfl) rfl rfl hl.1 rfl (lv_room (Nat.le_of_ble_eq_true rfl)) dX11_value_40 ⟨Nat.le_of_ble_eq_true rfl, Nat.le_of_ble_eq_true rfl⟩) hP hD hS hA (fun r_17 u H locs hw_18 hP hD hS => ?_)
        obtain ⟨ws_19, rfl⟩ : ∃ z, z = u := ⟨_, rfl⟩
        obtain ⟨hT, rfl⟩ := hw_18
        have hP : va_P D vwCl ([(rf_MO mo mw ma mf m0 m1 mu mv u0 u1 iz th1_14 mb mn mpt mbg mwr mwk mlf men), (rf_RW ct 0 mw 958 f)] ++ ws_19) H := hP
        have hD : va_D A ([(rf_MO mo mw ma mf m0 m1 mu mv u0 u1 iz th1_14 mb mn mpt mbg mwr mwk mlf men), (rf_RW ct 0 mw 958 f)] ++ ws_19) := hD
        exact W.iret (v := (rf_of f p1 p2.toInt.toNat)) hx hb hr (fun t ht hW => ⟨⟨(rf_of f p1 p2.toInt.toNat), (ws_19, th1_14), rfl, hT, by rw [ht]; exact hP, by rw [hAe]; exact hD⟩, hS.F ht⟩) hS.2.2 dX11_value_43
      · refine lv_if_eq (tgt := 37) hx hb dX11_value_30 (by decide) (fun hc => absurd hc (by decide)) (fun _ => ?_)
        refine lv_iconst (v := 0) hx hb dX11_value_33 (by decide) ?_
        refine lv_goto (tgt := 43) hx hb dX11_value_34 (by decide) ?_
        have hP : va_P D vwCl ([(rf_MO mo mw ma mf m0 m1 mu mv u0 u1 iz th1_14 mb mn mpt mbg mwr mwk mlf men), (rf_RW ct 0 mw 958 f)] ++ ws_13) H := ty_permP hP (ty_ordp (E := [(rf_RW ct 0 mw 958 f), (rf_MO mo mw ma mf m0 m1 mu mv u0 u1 iz th1_14 mb mn mpt mbg mwr mwk mlf men)]) (E2 := [(rf_MO mo mw ma mf m0 m1 mu mv u0 u1 iz th1_14 mb mn mpt mbg mwr mwk mlf men), (rf_RW ct 0 mw 958 f)]) (n := 2) [1, 0] rfl rfl (by decide))
        have hD : va_D A ([(rf_MO mo mw ma mf m0 m1 mu mv u0 u1 iz th1_14 mb mn mpt mbg mwr mwk mlf men), (rf_RW ct 0 mw 958 f)] ++ ws_13) := ty_permD hD (ty_ordp (E := [(rf_RW ct 0 mw 958 f), (rf_MO mo mw ma mf m0 m1 mu mv u0 u1 iz th1_14 mb mn mpt mbg mwr mwk mlf men)]) (E2 := [(rf_MO mo mw ma mf m0 m1 mu mv u0 u1 iz th1_14 mb mn mpt mbg mwr mwk mlf men), (rf_RW ct 0 mw 958 f)]) (n := 2) [1, 0] rfl rfl (by decide))
        exact W.iret (v := 0) hx hb hr (fun t ht hW => ⟨⟨0, (ws_13, th1_14), rfl, hT, by rw [ht]; exact hP, by rw [hAe]; exact hD⟩, hS.F ht⟩) hS.2.2 dX11_value_43
    · refine lv_iconst (v := 1) hx hb dX11_value_21 (by decide) ?_
      refine lv_goto (tgt := 26) hx hb dX11_value_22 (by decide) ?_
      refine lv_iconst (v := 2) hx hb dX11_value_26 (by decide) ?_
      have hP : va_P D vwCl ([(rf_RW ct 0 mw 958 f), (rf_MO mo mw ma mf m0 m1 mu mv u0 u1 iz th1_4 mb mn mpt mbg mwr mwk mlf men)] ++ ws_9) H := ty_permP hP (ty_ordp (E := [(rf_MO mo mw ma mf m0 m1 mu mv u0 u1 iz th1_4 mb mn mpt mbg mwr mwk mlf men), (rf_RW ct 0 mw 958 f)]) (E2 := [(rf_RW ct 0 mw 958 f), (rf_MO mo mw ma mf m0 m1 mu mv u0 u1 iz th1_4 mb mn mpt mbg mwr mwk mlf men)]) (n := 2) [1, 0] rfl rfl (by decide))
      have hD : va_D A ([(rf_RW ct 0 mw 958 f), (rf_MO mo mw ma mf m0 m1 mu mv u0 u1 iz th1_4 mb mn mpt mbg mwr mwk mlf men)] ++ ws_9) := ty_permD hD (ty_ordp (E := [(rf_MO mo mw ma mf m0 m1 mu mv u0 u1 iz th1_4 mb mn mpt mbg mwr mwk mlf men), (rf_RW ct 0 mw 958 f)]) (E2 := [(rf_RW ct 0 mw 958 f), (rf_MO mo mw ma mf m0 m1 mu mv u0 u1 iz th1_4 mb mn mpt mbg mwr mwk mlf men)]) (n := 2) [1, 0] rfl rfl (by decide))
      refine ty_ki (wr := [(rf_RW ct 0 mw 958 f)]) (wc := ([(rf_MO mo mw ma mf m0 m1 mu mv u0 u1 iz th1_4 mb mn mpt mbg mwr mwk mlf men)] ++ ws_9)) (va_runV (As := [.int 1, .int 2]) (rest := []) ⟨hx, hb, hml, hown, hts⟩ (m_X11_throwsIf l D ct S ws_9 ph xx mo mw ma mf m0 m1 mu mv u0 u1 iz mb th1_4 mn mpt mbg mwr mwk mlf men (1 : Int32) (2 : Int32) _ hT h_mu h_mv h_u0 h_u1 hph hy1 (by decide)) (cm_V 2 hts kc_X11_throwsIf ki_RX11 kl_RX11_328 kv_X11_throwsIf kx_X11_throwsIf kd_X11_throwsIf ⟨Nat.le_of_ble_eq_true rfl, Nat.le_of_ble_eq_true rfl⟩) (ty_preE (wr := [(rf_RW ct 0 mw 958 f)]) (wc := ([(rf_MO mo mw ma mf m0 m1 mu mv u0 u1 iz th1_4 mb mn mpt mbg mwr mwk mlf men)] ++ ws_9)) (ci := 11) (q0 := 1) hP hK hD hS hA hX rfl rfl) rfl rfl hl.1 rfl (lv_room (Nat.le_of_ble_eq_true rfl)) dX11_value_27 ⟨Nat.le_of_ble_eq_true rfl, Nat.le_of_ble_eq_true rfl⟩) hP hD hS hA (fun r_20 u H locs hw_21 hP hD hS => ?_)
      obtain ⟨ws_22, th1_23⟩ := u
      obtain ⟨hT, hp_24⟩ := hw_21
      have hp_24 : ((r_20 = 0 ∧ (1 : Int32) = 0) ∨ r_20 = 1) := hp_24
      have hP : va_P D vwCl ([(rf_RW ct 0 mw 958 f), (rf_MO mo mw ma mf m0 m1 mu mv u0 u1 iz th1_23 mb mn mpt mbg mwr mwk mlf men)] ++ ws_22) H := hP
      have hD : va_D A ([(rf_RW ct 0 mw 958 f), (rf_MO mo mw ma mf m0 m1 mu mv u0 u1 iz th1_23 mb mn mpt mbg mwr mwk mlf men)] ++ ws_22) := hD
      rcases hp_24 with ⟨rfl, hz_25⟩ | rfl
      · exact absurd hz_25 (by decide)
      · refine lv_if_eq (tgt := 37) hx hb dX11_value_30 (by decide) (fun hc => absurd hc (by decide)) (fun _ => ?_)
        refine lv_iconst (v := 0) hx hb dX11_value_33 (by decide) ?_
        refine lv_goto (tgt := 43) hx hb dX11_value_34 (by decide) ?_
        have hP : va_P D vwCl ([(rf_MO mo mw ma mf m0 m1 mu mv u0 u1 iz th1_23 mb mn mpt mbg mwr mwk mlf men), (rf_RW ct 0 mw 958 f)] ++ ws_22) H := ty_permP hP (ty_ordp (E := [(rf_RW ct 0 mw 958 f), (rf_MO mo mw ma mf m0 m1 mu mv u0 u1 iz th1_23 mb mn mpt mbg mwr mwk mlf men)]) (E2 := [(rf_MO mo mw ma mf m0 m1 mu mv u0 u1 iz th1_23 mb mn mpt mbg mwr mwk mlf men), (rf_RW ct 0 mw 958 f)]) (n := 2) [1, 0] rfl rfl (by decide))
        have hD : va_D A ([(rf_MO mo mw ma mf m0 m1 mu mv u0 u1 iz th1_23 mb mn mpt mbg mwr mwk mlf men), (rf_RW ct 0 mw 958 f)] ++ ws_22) := ty_permD hD (ty_ordp (E := [(rf_RW ct 0 mw 958 f), (rf_MO mo mw ma mf m0 m1 mu mv u0 u1 iz th1_23 mb mn mpt mbg mwr mwk mlf men)]) (E2 := [(rf_MO mo mw ma mf m0 m1 mu mv u0 u1 iz th1_23 mb mn mpt mbg mwr mwk mlf men), (rf_RW ct 0 mw 958 f)]) (n := 2) [1, 0] rfl rfl (by decide))
        exact W.iret (v := 0) hx hb hr (fun t ht hW => ⟨⟨0, (ws_22, th1_23), rfl, hT, by rw [ht]; exact hP, by rw [hAe]; exact hD⟩, hS.F ht⟩) hS.2.2 dX11_value_43
  · refine lv_if_ne (tgt := 33) hx hb dX11_value_5 (by decide) (fun _ => ?_) (fun hc => absurd hc (by decide))
    refine lv_iconst (v := 0) hx hb dX11_value_33 (by decide) ?_
    refine lv_goto (tgt := 43) hx hb dX11_value_34 (by decide) ?_
    exact W.iret (v := 0) hx hb hr (fun t ht hW => ⟨⟨0, (ws_3, th1_4), rfl, hT, by rw [ht]; exact hP, by rw [hAe]; exact hD⟩, hS.F ht⟩) hS.2.2 dX11_value_43
