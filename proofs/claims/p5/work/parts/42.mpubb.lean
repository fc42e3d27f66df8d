def q_X11_turns (f : Nat → Int32) (G : Nat → Int32) (p1 : Int32) (p2 : Int32) (p3 : Int32) (r : Int32) (th1 : Int32) (f1 : Nat → Int32) : Prop := (∃ (th1_4 : Int32), True ∧ ((((0 ≤ p1.toInt ∧ p1.toInt < (G 9).toInt) ∧ th1_4 = 0) ∧ ((¬ rf_of f p1 0 = p2 ∧ (r = (-3) ∧ th1 = 0 ∧ f1 = f)) ∨ (rf_of f p1 0 = p2 ∧ (∃ (f1_18 : Nat → Int32), f1_18 = upd f (244 + 54 * p1.toInt.toNat + 0) p3 ∧ (r = (rf_of f1_18 p1 2) ∧ th1 = 0 ∧ f1 = f1_18))))) ∨ ((¬ (0 ≤ p1.toInt ∧ p1.toInt < (G 9).toInt) ∧ th1_4 = 1) ∧ (r = 0 ∧ th1 = 1 ∧ f1 = f))))
set_option maxRecDepth 100000 in
set_option maxHeartbeats 4000000 in
theorem m_X11_turns (l : Launch) (D : va_G) (ct : Nat → ClassId) (S : ty_S) (ws : va_W) (ph : va_W → Prop) (xx : Nat → Nat → Nat → Prop) (mo : Nat) (mw : Nat) (ma : Nat) (mf : Nat) (m0 : Nat) (m1 : Nat) (mu : Nat) (mv : Nat) (u0 : Nat) (u1 : Nat) (iz : Nat) (mb : Nat) (th : Int32) (mn : Int32) (mpt : Int32) (mbg : Int32) (mwr : Int32) (mwk : Int32) (mlf : Int32) (men : Int32) (f : Nat → Int32) (G : Nat → Int32) (p1 : Int32) (p2 : Int32) (p3 : Int32) (sz : Nat) (hT : ty_V ct S ph ws) (hph : ty_C ph xx) (hy1 : ty_y1 xx) (hR : rf_R G (-1) f) (hft : (p2 = 1 ∧ p3 = 2) ∨ (p2 = 2 ∧ p3 = 1)) : Met l yX11_turns (ws_ yX11_turns cX11_turns 4 (some .int)) ({ frames := 2, cells := 0, slots := 0, locals := 46 } : Room) (va_Pc [.ref mo, .int p1, .int p2, .int p3] (cmP D ct sz ([(rf_MO mo mw ma mf m0 m1 mu mv u0 u1 iz th mb mn mpt mbg mwr mwk mlf men), (rf_RW ct 0 mw 958 f)] ++ ws))) (va_Qi (fun (r : Int32) (u : va_W × Int32 × (Nat → Int32)) => match u with | (u9, th1, f1) => ty_V ct S ph u9 ∧ (q_X11_turns f G p1 p2 p3 r th1 f1) ∧ rf_d (f 8) f f1 ∧ rf_R G (-1) f1) (cmB D ([(rf_MO mo mw ma mf m0 m1 mu mv u0 u1 iz th mb mn mpt mbg mwr mwk mlf men), (rf_RW ct 0 mw 958 f)] ++ ws) sz (fun (u : va_W × Int32 × (Nat → Int32)) => match u with | (u9, th1, f1) => ([(rf_MO mo mw ma mf m0 m1 mu mv u0 u1 iz th1 mb mn mpt mbg mwr mwk mlf men), (rf_RW ct 0 mw 958 f1)] ++ u9))) (va_A ([(rf_MO mo mw ma mf m0 m1 mu mv u0 u1 iz th mb mn mpt mbg mwr mwk mlf men), (rf_RW ct 0 mw 958 f)] ++ ws) sz)) 0 0 (va_A ([(rf_MO mo mw ma mf m0 m1 mu mv u0 u1 iz th mb mn mpt mbg mwr mwk mlf men), (rf_RW ct 0 mw 958 f)] ++ ws) sz) := by
  refine Met.ofW (cc := cX11_turns) (maxL := 4) (ret := (some .int)) (by decide) rfl ?_
  intro p e s m args below meth c s₁ B hml hv
  obtain ⟨rfl, hsz, hP, hK, hD0, hX⟩ := hv
  have hx := B.exec
  have hb := B.bytes
  have hr := B.returns
  have hts := ws_all (atoms_spec (ws := ws_ yX11_turns cX11_turns 4 (some .int)) B.pre)
  have hown : s.vm.findClass RX11 = some m.cls := findClass_of_methodNamed B.named
  have hlocks := B.notSynchronized
  subst hsz
  have hD := hD0.self (sz := s.heap.size)
  generalize hAe : va_A ([(rf_MO mo mw ma mf m0 m1 mu mv u0 u1 iz th mb mn mpt mbg mwr mwk mlf men), (rf_RW ct 0 mw 958 f)] ++ ws) s.heap.size = A at hD hX ⊢
  have hA : ∀ q : Nat, s.heap.size ≤ q → A q := fun q h => by rw [← hAe]; exact Or.inr h
  have hS : va_S A s.heap s.heap [] := va_S.rf
  have hl := lv_entry ([.ref mo, .int p1, .int p2, .int p3]) (n := 4) (Nat.le_of_ble_eq_true rfl)
  rw [lg_entry_eq]
  generalize (lg_sl ([.ref mo, .int p1, .int p2, .int p3]) ++ List.replicate (4 - (lg_sl ([.ref mo, .int p1, .int p2, .int p3])).length) Slot.unset).toArray = ls at hl ⊢
  have hl : lv_has ls 4 [(0, .ref mo), (1, .int p1), (2, .int p2), (3, .int p3)] := hl
  refine lv_aload_n hx hb dX11_turns_0 rfl (lv_at hl 0 rfl) ?_
  refine lv_iload_n hx hb dX11_turns_1 rfl (lv_at hl 1 rfl) ?_
  obtain ⟨hP, hD⟩ := ty_ipPD (E1 := []) (E2 := [(rf_MO mo mw ma mf m0 m1 mu mv u0 u1 iz th mb mn mpt mbg mwr mwk mlf men), (rf_RW ct 0 mw 958 f)]) hP hD rfl ty_mva
  refine ty_Ki hP hD hS hA (va_runV (As := [.int p1]) (rest := []) ⟨hx, hb, hml, hown, hts⟩ (m_X11_noChannel l D ct S ws ph xx mo mw ma mf m0 m1 mu mv u0 u1 iz mb th mn mpt mbg mwr mwk mlf men f G (-1) p1 _ hT hph hy1 hR) (cm_V 1 hts kc_X11_noChannel ki_RX11 kl_RX11_344 kv_X11_noChannel kx_X11_noChannel kd_X11_noChannel ⟨Nat.le_of_ble_eq_true rfl, Nat.le_of_ble_eq_true rfl⟩) (ty_preE (ci := 11) (q0 := 0) hP hK hD hS hA hX rfl rfl) rfl rfl hl.1 rfl (lv_room (Nat.le_of_ble_eq_true rfl)) dX11_turns_2 ⟨Nat.le_of_ble_eq_true rfl, Nat.le_of_ble_eq_true rfl⟩) (fun r_1 u H locs hw_2 hP hD hS => ?_)
  obtain ⟨ws_3, th1_4⟩ := u
  obtain ⟨hT, hp_5⟩ := hw_2
  have hp_5 : ((r_1 = 0 ∧ (0 ≤ p1.toInt ∧ p1.toInt < (G 9).toInt) ∧ th1_4 = 0) ∨ (r_1 = 1 ∧ ¬ (0 ≤ p1.toInt ∧ p1.toInt < (G 9).toInt) ∧ th1_4 = 1)) := hp_5
  obtain ⟨hP, hD⟩ := ty_shPD (w2 := ([(rf_MO mo mw ma mf m0 m1 mu mv u0 u1 iz th1_4 mb mn mpt mbg mwr mwk mlf men), (rf_RW ct 0 mw 958 f)] ++ ws_3)) hP hD rfl
  rcases hp_5 with ⟨rfl, hz_6⟩ | ⟨rfl, hz_7⟩
  · have he_8 := hz_6.2
    have hP : va_P D vwCl ([(rf_MO mo mw ma mf m0 m1 mu mv u0 u1 iz (0) mb mn mpt mbg mwr mwk mlf men), (rf_RW ct 0 mw 958 f)] ++ ws_3) H := by rw [he_8] at hP; exact hP
    have hD : va_D A ([(rf_MO mo mw ma mf m0 m1 mu mv u0 u1 iz (0) mb mn mpt mbg mwr mwk mlf men), (rf_RW ct 0 mw 958 f)] ++ ws_3) := by rw [he_8] at hD; exact hD
    refine lv_if_eq (tgt := 10) hx hb dX11_turns_5 (by decide) (fun _ => ?_) (fun hc => absurd (by decide) hc)
    refine lv_aload_n hx hb dX11_turns_10 rfl (lv_at hl 0 rfl) ?_
    refine lv_iload_n hx hb dX11_turns_11 rfl (lv_at hl 1 rfl) ?_
    refine lv_iload_n hx hb dX11_turns_12 rfl (lv_at hl 2 rfl) ?_
    obtain ⟨hP, hD⟩ := ty_ipPD (E1 := []) (E2 := [(rf_MO mo mw ma mf m0 m1 mu mv u0 u1 iz (0) mb mn mpt mbg mwr mwk mlf men), (rf_RW ct 0 mw 958 f)]) hP hD rfl ty_mva
    refine ty_Ki hP hD hS hA (va_runV (As := [.int p1, .int p2]) (rest := []) ⟨hx, hb, hml, hown, hts⟩ (m_X11_isIn l D ct S ws_3 ph xx mo mw ma mf m0 m1 mu mv u0 u1 iz mb (0 : Int32) mn mpt mbg mwr mwk mlf men f G (-1) p1 p2 _ hT hph hy1 hR hz_6.1) (cm_V 2 hts kc_X11_isIn ki_RX11 kl_RX11_350 kv_X11_isIn kx_X11_isIn kd_X11_isIn ⟨Nat.le_of_ble_eq_true rfl, Nat.le_of_ble_eq_true rfl⟩) (ty_preE (ci := 11) (q0 := 0) hP hK hD hS hA hX rfl rfl) rfl rfl hl.1 rfl (lv_room (Nat.le_of_ble_eq_true rfl)) dX11_turns_13 ⟨Nat.le_of_ble_eq_true rfl, Nat.le_of_ble_eq_true rfl⟩) (fun r_9 u H locs hw_10 hP hD hS => ?_)
    obtain ⟨ws_11, rfl⟩ : ∃ z, z = u := ⟨_, rfl⟩
    obtain ⟨hT, hp_12⟩ := hw_10
    have hp_12 : ((r_9 = 0 ∧ ¬ rf_of f p1 0 = p2) ∨ (r_9 = 1 ∧ rf_of f p1 0 = p2)) := hp_12
    obtain ⟨hP, hD⟩ := ty_shPD (w2 := ([(rf_MO mo mw ma mf m0 m1 mu mv u0 u1 iz (0) mb mn mpt mbg mwr mwk mlf men), (rf_RW ct 0 mw 958 f)] ++ ws_11)) hP hD rfl
    rcases hp_12 with ⟨rfl, hz_13⟩ | ⟨rfl, hz_14⟩
    · refine lv_if_ne (tgt := 22) hx hb dX11_turns_16 (by decide) (fun hc => absurd (by decide) hc) (fun _ => ?_)
      refine lv_bipush (v := (-3)) hx hb dX11_turns_19 (by decide) ?_
      exact W.iret (v := (-3)) hx hb hr (fun t ht hW => ⟨⟨(-3), (ws_11, (0 : Int32), f), rfl, ⟨hT, ⟨⟨th1_4, trivial, (Or.inl ⟨hz_6, (Or.inl ⟨hz_13, ⟨rfl, rfl, rfl⟩⟩)⟩)⟩, ⟨(rf_dr f), hR⟩⟩⟩, by rw [ht]; exact hP, by rw [hAe]; exact hD⟩, hS.F ht⟩) hS.2.2 dX11_turns_21
    · refine lv_if_ne (tgt := 22) hx hb dX11_turns_16 (by decide) (fun _ => ?_) (fun hc => absurd hc (by decide))
      refine lv_aload_n hx hb dX11_turns_22 rfl (lv_at hl 0 rfl) ?_
      refine lv_iload_n hx hb dX11_turns_23 rfl (lv_at hl 1 rfl) ?_
      refine lv_iconst (v := 0) hx hb dX11_turns_24 (by decide) ?_
      refine lv_iload_n hx hb dX11_turns_25 rfl (lv_at hl 3 rfl) ?_
      obtain ⟨hP, hD⟩ := ty_ipPD (E1 := []) (E2 := [(rf_MO mo mw ma mf m0 m1 mu mv u0 u1 iz (0) mb mn mpt mbg mwr mwk mlf men), (rf_RW ct 0 mw 958 f)]) hP hD rfl ty_mva
      refine ty_Kv hP hD hS hA (va_runV (As := [.int p1, .int 0, .int p3]) (rest := []) ⟨hx, hb, hml, hown, hts⟩ (m_put_0 l D ct S ws_11 ph xx mo mw ma mf m0 m1 mu mv u0 u1 iz mb (0 : Int32) mn mpt mbg mwr mwk mlf men f G (-1) p1 p3 _ hT hph hy1 hR hz_6.1 (Or.inl rfl)) (cm_V 3 hts kc_X11_put ki_RX11 kl_RX11_234 kv_X11_put kx_X11_put kd_X11_put ⟨Nat.le_of_ble_eq_true rfl, Nat.le_of_ble_eq_true rfl⟩) (ty_preE (ci := 11) (q0 := 0) hP hK hD hS hA hX rfl rfl) rfl rfl hl.1 rfl (lv_room (Nat.le_of_ble_eq_true rfl)) dX11_turns_26 ⟨Nat.le_of_ble_eq_true rfl, Nat.le_of_ble_eq_true rfl⟩) (fun u H locs hw_16 hP hD hS => ?_)
      obtain ⟨ws_17, f1_18⟩ := u
      obtain ⟨hT, hp_19⟩ := hw_16
      have hp_19 : rf_d (f 8) f f1_18 ∧ rf_R G p1.toInt f1_18 ∧ f1_18 = upd f (244 + 54 * p1.toInt.toNat + 0) p3 := hp_19
      obtain ⟨hd_20, hq_21⟩ := hp_19
      have hD_22 := rf_dt (rf_dr f) hd_20
      have hR_23 := hq_21.1
      obtain ⟨hP, hD⟩ := ty_shPD (w2 := ([(rf_MO mo mw ma mf m0 m1 mu mv u0 u1 iz (0) mb mn mpt mbg mwr mwk mlf men), (rf_RW ct 0 mw 958 f1_18)] ++ ws_17)) hP hD rfl
      refine lv_aload_n hx hb dX11_turns_29 rfl (lv_at hl 0 rfl) ?_
      refine lv_iload_n hx hb dX11_turns_30 rfl (lv_at hl 1 rfl) ?_
      refine lv_iconst (v := 2) hx hb dX11_turns_31 (by decide) ?_
      obtain ⟨hP, hD⟩ := ty_ipPD (E1 := []) (E2 := [(rf_MO mo mw ma mf m0 m1 mu mv u0 u1 iz (0) mb mn mpt mbg mwr mwk mlf men), (rf_RW ct 0 mw 958 f1_18)]) hP hD rfl ty_mva
      refine ty_Ki hP hD hS hA (va_runV (As := [.int p1, .int 2]) (rest := []) ⟨hx, hb, hml, hown, hts⟩ (m_of_2 l D ct S ws_17 ph xx mo mw ma mf m0 m1 mu mv u0 u1 iz mb (0 : Int32) mn mpt mbg mwr mwk mlf men f1_18 G p1.toInt p1 _ hT hph hy1 hR_23 hz_6.1) (cm_V 2 hts kc_X11_of ki_RX11 kl_RX11_209 kv_X11_of kx_X11_of kd_X11_of ⟨Nat.le_of_ble_eq_true rfl, Nat.le_of_ble_eq_true rfl⟩) (ty_preE (ci := 11) (q0 := 0) hP hK hD hS hA hX rfl rfl) rfl rfl hl.1 rfl (lv_room (Nat.le_of_ble_eq_true rfl)) dX11_turns_32 ⟨Nat.le_of_ble_eq_true rfl, Nat.le_of_ble_eq_true rfl⟩) (fun r_25 u H locs hw_26 hP hD hS => ?_)
      obtain ⟨ws_27, rfl⟩ : ∃ z, z = u := ⟨_, rfl⟩
      obtain ⟨hT, rfl⟩ := hw_26
      obtain ⟨hP, hD⟩ := ty_shPD (w2 := ([(rf_MO mo mw ma mf m0 m1 mu mv u0 u1 iz (0) mb mn mpt mbg mwr mwk mlf men), (rf_RW ct 0 mw 958 f1_18)] ++ ws_27)) hP hD rfl
      have hc9 := hz_6.1
      have ho9 : rf_on G f p1 := (rf_onr hR hc9 (by rcases hft with q | q <;> rw [hz_14, q.1] <;> simp))
      have e1 : rf_of f1_18 p1 1 = rf_of f p1 1 := by rw [hq_21.2]; exact rf_ne (by decide)
      have e2 : rf_of f1_18 p1 2 = rf_of f p1 2 := by rw [hq_21.2]; exact rf_ne (by decide)
      have hRf := rf_back9 hc9.1 hR_23 (Or.inr rfl) (rf_runok hc9.1 (by unfold rf_on; rw [e1, e2]; exact ho9))
      exact W.iret (v := (rf_of f1_18 p1 2)) hx hb hr (fun t ht hW => ⟨⟨(rf_of f1_18 p1 2), (ws_27, (0 : Int32), f1_18), rfl, ⟨hT, ⟨⟨th1_4, trivial, (Or.inl ⟨hz_6, (Or.inr ⟨hz_14, ⟨f1_18, hq_21.2, ⟨rfl, rfl, rfl⟩⟩⟩)⟩)⟩, ⟨hD_22, hRf⟩⟩⟩, by rw [ht]; exact hP, by rw [hAe]; exact hD⟩, hS.F ht⟩) hS.2.2 dX11_turns_35
  · have he_28 := hz_7.2
    have hP : va_P D vwCl ([(rf_MO mo mw ma mf m0 m1 mu mv u0 u1 iz (1) mb mn mpt mbg mwr mwk mlf men), (rf_RW ct 0 mw 958 f)] ++ ws_3) H := by rw [he_28] at hP; exact hP
    have hD : va_D A ([(rf_MO mo mw ma mf m0 m1 mu mv u0 u1 iz (1) mb mn mpt mbg mwr mwk mlf men), (rf_RW ct 0 mw 958 f)] ++ ws_3) := by rw [he_28] at hD; exact hD
    refine lv_if_eq (tgt := 10) hx hb dX11_turns_5 (by decide) (fun hc => absurd hc (by decide)) (fun _ => ?_)
    refine lv_iconst (v := 0) hx hb dX11_turns_8 (by decide) ?_
    exact W.iret (v := 0) hx hb hr (fun t ht hW => ⟨⟨0, (ws_3, (1 : Int32), f), rfl, ⟨hT, ⟨⟨th1_4, trivial, (Or.inr ⟨hz_7, ⟨rfl, rfl, rfl⟩⟩)⟩, ⟨(rf_dr f), hR⟩⟩⟩, by rw [ht]; exact hP, by rw [hAe]; exact hD⟩, hS.F ht⟩) hS.2.2 dX11_turns_9
def q_X11_pause (f : Nat → Int32) (G : Nat → Int32) (p1 : Int32) (r : Int32) (th1 : Int32) (f1 : Nat → Int32) : Prop := (∃ (r_1 : Int32) (th1_4 : Int32) (f1_5 : Nat → Int32), (q_X11_turns f G p1 (1 : Int32) (2 : Int32) r_1 th1_4 f1_5) ∧ (r = r_1 ∧ th1 = th1_4 ∧ f1 = f1_5))
set_option maxRecDepth 100000 in
set_option maxHeartbeats 4000000 in
theorem m_X11_pause (l : Launch) (D : va_G) (ct : Nat → ClassId) (S : ty_S) (ws : va_W) (ph : va_W → Prop) (xx : Nat → Nat → Nat → Prop) (mo : Nat) (mw : Nat) (ma : Nat) (mf : Nat) (m0 : Nat) (m1 : Nat) (mu : Nat) (mv : Nat) (u0 : Nat) (u1 : Nat) (iz : Nat) (mb : Nat) (th : Int32) (mn : Int32) (mpt : Int32) (mbg : Int32) (mwr : Int32) (mwk : Int32) (mlf : Int32) (men : Int32) (f : Nat → Int32) (G : Nat → Int32) (p1 : Int32) (sz : Nat) (hT : ty_V ct S ph ws) (hph : ty_C ph xx) (hy1 : ty_y1 xx) (hR : rf_R G (-1) f) : Met l yX11_pause (ws_ yX11_pause cX11_pause 2 (some .int)) ({ frames := 3, cells := 0, slots := 0, locals := 69 } : Room) (va_Pc [.ref mo, .int p1] (cmP D ct sz ([(rf_MO mo mw ma mf m0 m1 mu mv u0 u1 iz th mb mn mpt mbg mwr mwk mlf men), (rf_RW ct 0 mw 958 f)] ++ ws))) (va_Qi (fun (r : Int32) (u : va_W × Int32 × (Nat → Int32)) => match u with | (u9, th1, f1) => ty_V ct S ph u9 ∧ (q_X11_pause f G p1 r th1 f1) ∧ rf_d (f 8) f f1 ∧ rf_R G (-1) f1) (cmB D ([(rf_MO mo mw ma mf m0 m1 mu mv u0 u1 iz th mb mn mpt mbg mwr mwk mlf men), (rf_RW ct 0 mw 958 f)] ++ ws) sz (fun (u : va_W × Int32 × (Nat → Int32)) => match u with | (u9, th1, f1) => ([(rf_MO mo mw ma mf m0 m1 mu mv u0 u1 iz th1 mb mn mpt mbg mwr mwk mlf men), (rf_RW ct 0 mw 958 f1)] ++ u9))) (va_A ([(rf_MO mo mw ma mf m0 m1 mu mv u0 u1 iz th mb mn mpt mbg mwr mwk mlf men), (rf_RW ct 0 mw 958 f)] ++ ws) sz)) 0 0 (va_A ([(rf_MO mo mw ma mf m0 m1 mu mv u0 u1 iz th mb mn mpt mbg mwr mwk mlf men), (rf_RW ct 0 mw 958 f)] ++ ws) sz) := by
  refine Met.ofW (cc := cX11_pause) (maxL := 2) (ret := (some .int)) (by decide) rfl ?_
  intro p e s m args below meth c s₁ B hml hv
  obtain ⟨rfl, hsz, hP, hK, hD0, hX⟩ := hv
  have hx := B.exec
  have hb := B.bytes
  have hr := B.returns
  have hts := ws_all (atoms_spec (ws := ws_ yX11_pause cX11_pause 2 (some .int)) B.pre)
  have hown : s.vm.findClass RX11 = some m.cls := findClass_of_methodNamed B.named
  have hlocks := B.notSynchronized
  subst hsz
  have hD := hD0.self (sz := s.heap.size)
  generalize hAe : va_A ([(rf_MO mo mw ma mf m0 m1 mu mv u0 u1 iz th mb mn mpt mbg mwr mwk mlf men), (rf_RW ct 0 mw 958 f)] ++ ws) s.heap.size = A at hD hX ⊢
  have hA : ∀ q : Nat, s.heap.size ≤ q → A q := fun q h => by rw [← hAe]; exact Or.inr h
  have hS : va_S A s.heap s.heap [] := va_S.rf
  have hl := lv_entry ([.ref mo, .int p1]) (n := 2) (Nat.le_of_ble_eq_true rfl)
  rw [lg_entry_eq]
  generalize (lg_sl ([.ref mo, .int p1]) ++ List.replicate (2 - (lg_sl ([.ref mo, .int p1])).length) Slot.unset).toArray = ls at hl ⊢
  have hl : lv_has ls 2 [(0, .ref mo), (1, .int p1)] := hl
  refine lv_aload_n hx hb dX11_pause_0 rfl (lv_at hl 0 rfl) ?_
  refine lv_iload_n hx hb dX11_pause_1 rfl (lv_at hl 1 rfl) ?_
  refine lv_iconst (v := 1) hx hb dX11_pause_2 (by decide) ?_
  refine lv_iconst (v := 2) hx hb dX11_pause_3 (by decide) ?_
  obtain ⟨hP, hD⟩ := ty_ipPD (E1 := []) (E2 := [(rf_MO mo mw ma mf m0 m1 mu mv u0 u1 iz th mb mn mpt mbg mwr mwk mlf men), (rf_RW ct 0 mw 958 f)]) hP hD rfl ty_mva
  refine ty_Ki hP hD hS hA (va_runV (As := [.int p1, .int 1, .int 2]) (rest := []) ⟨hx, hb, hml, hown, hts⟩ (m_X11_turns l D ct S ws ph xx mo mw ma mf m0 m1 mu mv u0 u1 iz mb th mn mpt mbg mwr mwk mlf men f G p1 (1 : Int32) (2 : Int32) _ hT hph hy1 hR (by decide)) (cm_V 3 hts kc_X11_turns ki_RX11 kl_RX11_353 kv_X11_turns kx_X11_turns kd_X11_turns ⟨Nat.le_of_ble_eq_true rfl, Nat.le_of_ble_eq_true rfl⟩) (ty_preE (ci := 11) (q0 := 0) hP hK hD hS hA hX rfl rfl) rfl rfl hl.1 rfl (lv_room (Nat.le_of_ble_eq_true rfl)) dX11_pause_4 ⟨Nat.le_of_ble_eq_true rfl, Nat.le_of_ble_eq_true rfl⟩) (fun r_1 u H locs hw_2 hP hD hS => ?_)
  obtain ⟨ws_3, th1_4, f1_5⟩ := u
  obtain ⟨hT, hp_6⟩ := hw_2
  have hp_6 : (q_X11_turns f G p1 (1 : Int32) (2 : Int32) r_1 th1_4 f1_5) ∧ rf_d (f 8) f f1_5 ∧ rf_R G (-1) f1_5 := hp_6
  obtain ⟨hq_7, hp_8⟩ := hp_6
  obtain ⟨hd_9, hq_10⟩ := hp_8
  have hD_11 := rf_dt (rf_dr f) hd_9
  have hR_12 := hq_10
  obtain ⟨hP, hD⟩ := ty_shPD (w2 := ([(rf_MO mo mw ma mf m0 m1 mu mv u0 u1 iz th1_4 mb mn mpt mbg mwr mwk mlf men), (rf_RW ct 0 mw 958 f1_5)] ++ ws_3)) hP hD rfl
  exact W.iret (v := r_1) hx hb hr (fun t ht hW => ⟨⟨r_1, (ws_3, th1_4, f1_5), rfl, ⟨hT, ⟨⟨r_1, th1_4, f1_5, hq_7, ⟨rfl, rfl, rfl⟩⟩, ⟨hD_11, hR_12⟩⟩⟩, by rw [ht]; exact hP, by rw [hAe]; exact hD⟩, hS.F ht⟩) hS.2.2 dX11_pause_7
def q_X11_resume (f : Nat → Int32) (G : Nat → Int32) (p1 : Int32) (r : Int32) (th1 : Int32) (f1 : Nat → Int32) : Prop := (∃ (r_1 : Int32) (th1_4 : Int32) (f1_5 : Nat → Int32), (q_X11_turns f G p1 (2 : Int32) (1 : Int32) r_1 th1_4 f1_5) ∧ (r = r_1 ∧ th1 = th1_4 ∧ f1 = f1_5))
set_option maxRecDepth 100000 in
set_option maxHeartbeats 4000000 in
theorem m_X11_resume (l : Launch) (D : va_G) (ct : Nat → ClassId) (S : ty_S) (ws : va_W) (ph : va_W → Prop) (xx : Nat → Nat → Nat → Prop) (mo : Nat) (mw : Nat) (ma : Nat) (mf : Nat) (m0 : Nat) (m1 : Nat) (mu : Nat) (mv : Nat) (u0 : Nat) (u1 : Nat) (iz : Nat) (mb : Nat) (th : Int32) (mn : Int32) (mpt : Int32) (mbg : Int32) (mwr : Int32) (mwk : Int32) (mlf : Int32) (men : Int32) (f : Nat → Int32) (G : Nat → Int32) (p1 : Int32) (sz : Nat) (hT : ty_V ct S ph ws) (hph : ty_C ph xx) (hy1 : ty_y1 xx) (hR : rf_R G (-1) f) : Met l yX11_resume (ws_ yX11_resume cX11_resume 2 (some .int)) ({ frames := 3, cells := 0, slots := 0, locals := 69 } : Room) (va_Pc [.ref mo, .int p1] (cmP D ct sz ([(rf_MO mo mw ma mf m0 m1 mu mv u0 u1 iz th mb mn mpt mbg mwr mwk mlf men), (rf_RW ct 0 mw 958 f)] ++ ws))) (va_Qi (fun (r : Int32) (u : va_W × Int32 × (Nat → Int32)) => match u with | (u9, th1, f1) => ty_V ct S ph u9 ∧ (q_X11_resume f G p1 r th1 f1) ∧ rf_d (f 8) f f1 ∧ rf_R G (-1) f1) (cmB D ([(rf_MO mo mw ma mf m0 m1 mu mv u0 u1 iz th mb mn mpt mbg mwr mwk mlf men), (rf_RW ct 0 mw 958 f)] ++ ws) sz (fun (u : va_W × Int32 × (Nat → Int32)) => match u with | (u9, th1, f1) => ([(rf_MO mo mw ma mf m0 m1 mu mv u0 u1 iz th1 mb mn mpt mbg mwr mwk mlf men), (rf_RW ct 0 mw 958 f1)] ++ u9))) (va_A ([(rf_MO mo mw ma mf m0 m1 mu mv u0 u1 iz th mb mn mpt mbg mwr mwk mlf men), (rf_RW ct 0 mw 958 f)] ++ ws) sz)) 0 0 (va_A ([(rf_MO mo mw ma mf m0 m1 mu mv u0 u1 iz th mb mn mpt mbg mwr mwk mlf men), (rf_RW ct 0 mw 958 f)] ++ ws) sz) := by
  refine Met.ofW (cc := cX11_resume) (maxL := 2) (ret := (some .int)) (by decide) rfl ?_
  intro p e s m args below meth c s₁ B hml hv
  obtain ⟨rfl, hsz, hP, hK, hD0, hX⟩ := hv
  have hx := B.exec
  have hb := B.bytes
  have hr := B.returns
  have hts := ws_all (atoms_spec (ws := ws_ yX11_resume cX11_resume 2 (some .int)) B.pre)
  have hown : s.vm.findClass RX11 = some m.cls := findClass_of_methodNamed B.named
  have hlocks := B.notSynchronized
  subst hsz
  have hD := hD0.self (sz := s.heap.size)
  generalize hAe : va_A ([(rf_MO mo mw ma mf m0 m1 mu mv u0 u1 iz th mb mn mpt mbg mwr mwk mlf men), (rf_RW ct 0 mw 958 f)] ++ ws) s.heap.size = A at hD hX ⊢
  have hA : ∀ q : Nat, s.heap.size ≤ q → A q := fun q h => by rw [← hAe]; exact Or.inr h
  have hS : va_S A s.heap s.heap [] := va_S.rf
  have hl := lv_entry ([.ref mo, .int p1]) (n := 2) (Nat.le_of_ble_eq_true rfl)
  rw [lg_entry_eq]
  generalize (lg_sl ([.ref mo, .int p1]) ++ List.replicate (2 - (lg_sl ([.ref mo, .int p1])).length) Slot.unset).toArray = ls at hl ⊢
  have hl : lv_has ls 2 [(0, .ref mo), (1, .int p1)] := hl
  refine lv_aload_n hx hb dX11_resume_0 rfl (lv_at hl 0 rfl) ?_
  refine lv_iload_n hx hb dX11_resume_1 rfl (lv_at hl 1 rfl) ?_
  refine lv_iconst (v := 2) hx hb dX11_resume_2 (by decide) ?_
  refine lv_iconst (v := 1) hx hb dX11_resume_3 (by decide) ?_
  obtain ⟨hP, hD⟩ := ty_ipPD (E1 := []) (E2 := [(rf_MO mo mw ma mf m0 m1 mu mv u0 u1 iz th mb mn mpt mbg mwr mwk mlf men), (rf_RW ct 0 mw 958 f)]) hP hD rfl ty_mva
  refine ty_Ki hP hD hS hA (va_runV (As := [.int p1, .int 2, .int 1]) (rest := []) ⟨hx, hb, hml, hown, hts⟩ (m_X11_turns l D ct S ws ph xx mo mw ma mf m0 m1 mu mv u0 u1 iz mb th mn mpt mbg mwr mwk mlf men f G p1 (2 : Int32) (1 : Int32) _ hT hph hy1 hR (by decide)) (cm_V 3 hts kc_X11_turns ki_RX11 kl_RX11_353 kv_X11_turns kx_X11_turns kd_X11_turns ⟨Nat.le_of_ble_eq_true rfl, Nat.le_of_ble_eq_true rfl⟩) (ty_preE (ci := 11) (q0 := 0) hP hK hD hS hA hX rfl rfl) rfl rfl hl.1 rfl (lv_room (Nat.le_of_ble_eq_true rfl)) dX11_resume_4 ⟨Nat.le_of_ble_eq_true rfl, Nat.le_of_ble_eq_true rfl⟩) (fun r_1 u H locs hw_2 hP hD hS => ?_)
  obtain ⟨ws_3, th1_4, f1_5⟩ := u
  obtain ⟨hT, hp_6⟩ := hw_2
  have hp_6 : (q_X11_turns f G p1 (2 : Int32) (1 : Int32) r_1 th1_4 f1_5) ∧ rf_d (f 8) f f1_5 ∧ rf_R G (-1) f1_5 := hp_6
  obtain ⟨hq_7, hp_8⟩ := hp_6
  obtain ⟨hd_9, hq_10⟩ := hp_8
  have hD_11 := rf_dt (rf_dr f) hd_9
  have hR_12 := hq_10
  obtain ⟨hP, hD⟩ := ty_shPD (w2 := ([(rf_MO mo mw ma mf m0 m1 mu mv u0 u1 iz th1_4 mb mn mpt mbg mwr mwk mlf men), (rf_RW ct 0 mw 958 f1_5)] ++ ws_3)) hP hD rfl
  exact W.iret (v := r_1) hx hb hr (fun t ht hW => ⟨⟨r_1, (ws_3, th1_4, f1_5), rfl, ⟨hT, ⟨⟨r_1, th1_4, f1_5, hq_7, ⟨rfl, rfl, rfl⟩⟩, ⟨hD_11, hR_12⟩⟩⟩, by rw [ht]; exact hP, by rw [hAe]; exact hD⟩, hS.F ht⟩) hS.2.2 dX11_resume_7
def q_X11_stop (f : Nat → Int32) (G : Nat → Int32) (p1 : Int32) (r : Int32) (th1 : Int32) (f1 : Nat → Int32) : Prop := (∃ (th1_4 : Int32), True ∧ ((((0 ≤ p1.toInt ∧ p1.toInt < (G 9).toInt) ∧ th1_4 = 0) ∧ (∃ (f1_15 : Nat → Int32), f1_15 = upd f (244 + 54 * p1.toInt.toNat + 0) (0 : Int32) ∧ (∃ (f1_26 : Nat → Int32), f1_26 = upd f1_15 (244 + 54 * p1.toInt.toNat + 2) ((-1) : Int32) ∧ (∃ (f1_37 : Nat → Int32), f1_37 = upd f1_26 (244 + 54 * p1.toInt.toNat + 3) (0 : Int32) ∧ (r = (rf_of f p1 0) ∧ th1 = 0 ∧ f1 = f1_37))))) ∨ ((¬ (0 ≤ p1.toInt ∧ p1.toInt < (G 9).toInt) ∧ th1_4 = 1) ∧ (r = 0 ∧ th1 = 1 ∧ f1 = f))))
set_option maxRecDepth 100000 in
set_option maxHeartbeats 4000000 in
theorem m_X11_stop (l : Launch) (D : va_G) (ct : Nat → ClassId) (S : ty_S) (ws : va_W) (ph : va_W → Prop) (xx : Nat → Nat → Nat → Prop) (mo : Nat) (mw : Nat) (ma : Nat) (mf : Nat) (m0 : Nat) (m1 : Nat) (mu : Nat) (mv : Nat) (u0 : Nat) (u1 : Nat) (iz : Nat) (mb : Nat) (th : Int32) (mn : Int32) (mpt : Int32) (mbg : Int32) (mwr : Int32) (mwk : Int32) (mlf : Int32) (men : Int32) (f : Nat → Int32) (G : Nat → Int32) (p1 : Int32) (sz : Nat) (hT : ty_V ct S ph ws) (hph : ty_C ph xx) (hy1 : ty_y1 xx) (hR : rf_R G (-1) f) : Met l yX11_stop (ws_ yX11_stop cX11_stop 3 (some .int)) ({ frames := 2, cells := 0, slots := 0, locals := 46 } : Room) (va_Pc [.ref mo, .int p1] (cmP D ct sz ([(rf_MO mo mw ma mf m0 m1 mu mv u0 u1 iz th mb mn mpt mbg mwr mwk mlf men), (rf_RW ct 0 mw 958 f)] ++ ws))) (va_Qi (fun (r : Int32) (u : va_W × Int32 × (Nat → Int32)) => match u with | (u9, th1, f1) => ty_V ct S ph u9 ∧ (q_X11_stop f G p1 r th1 f1) ∧ rf_d (f 8) f f1 ∧ rf_R G (-1) f1) (cmB D ([(rf_MO mo mw ma mf m0 m1 mu mv u0 u1 iz th mb mn mpt mbg mwr mwk mlf men), (rf_RW ct 0 mw 958 f)] ++ ws) sz (fun (u : va_W × Int32 × (Nat → Int32)) => match u with | (u9, th1, f1) => ([(rf_MO mo mw ma mf m0 m1 mu mv u0 u1 iz th1 mb mn mpt mbg mwr mwk mlf men), (rf_RW ct 0 mw 958 f1)] ++ u9))) (va_A ([(rf_MO mo mw ma mf m0 m1 mu mv u0 u1 iz th mb mn mpt mbg mwr mwk mlf men), (rf_RW ct 0 mw 958 f)] ++ ws) sz)) 0 0 (va_A ([(rf_MO mo mw ma mf m0 m1 mu mv u0 u1 iz th mb mn mpt mbg mwr mwk mlf men), (rf_RW ct 0 mw 958 f)] ++ ws) sz) := by
  refine Met.ofW (cc := cX11_stop) (maxL := 3) (ret := (some .int)) (by decide) rfl ?_
  intro p e s m args below meth c s₁ B hml hv
  obtain ⟨rfl, hsz, hP, hK, hD0, hX⟩ := hv
  have hx := B.exec
  have hb := B.bytes
  have hr := B.returns
  have hts := ws_all (atoms_spec (ws := ws_ yX11_stop cX11_stop 3 (some .int)) B.pre)
  have hown : s.vm.findClass RX11 = some m.cls := findClass_of_methodNamed B.named
  have hlocks := B.notSynchronized
  subst hsz
  have hD := hD0.self (sz := s.heap.size)
  generalize hAe : va_A ([(rf_MO mo mw ma mf m0 m1 mu mv u0 u1 iz th mb mn mpt mbg mwr mwk mlf men), (rf_RW ct 0 mw 958 f)] ++ ws) s.heap.size = A at hD hX ⊢
  have hA : ∀ q : Nat, s.heap.size ≤ q → A q := fun q h => by rw [← hAe]; exact Or.inr h
  have hS : va_S A s.heap s.heap [] := va_S.rf
  have hl := lv_entry ([.ref mo, .int p1]) (n := 3) (Nat.le_of_ble_eq_true rfl)
  rw [lg_entry_eq]
  generalize (lg_sl ([.ref mo, .int p1]) ++ List.replicate (3 - (lg_sl ([.ref mo, .int p1])).length) Slot.unset).toArray = ls at hl ⊢
  have hl : lv_has ls 3 [(0, .ref mo), (1, .int p1)] := hl
  refine lv_aload_n hx hb dX11_stop_0 rfl (lv_at hl 0 rfl) ?_
  refine lv_iload_n hx hb dX11_stop_1 rfl (lv_at hl 1 rfl) ?_
  obtain ⟨hP, hD⟩ := ty_ipPD (E1 := []) (E2 := [(rf_MO mo mw ma mf m0 m1 mu mv u0 u1 iz th mb mn mpt mbg mwr mwk mlf men), (rf_RW ct 0 mw 958 f)]) hP hD rfl ty_mva
  refine ty_Ki hP hD hS hA (va_runV (As := [.int p1]) (rest := []) ⟨hx, hb, hml, hown, hts⟩ (m_X11_noChannel l D ct S ws ph xx mo mw ma mf m0 m1 mu mv u0 u1 iz mb th mn mpt mbg mwr mwk mlf men f G (-1) p1 _ hT hph hy1 hR) (cm_V 1 hts kc_X11_noChannel ki_RX11 kl_RX11_344 kv_X11_noChannel kx_X11_noChannel kd_X11_noChannel ⟨Nat.le_of_ble_eq_true rfl, Nat.le_of_ble_eq_true rfl⟩) (ty_preE (ci := 11) (q0 := 0) hP hK hD hS hA hX rfl rfl) rfl rfl hl.1 rfl (lv_room (Nat.le_of_ble_eq_true rfl)) dX11_stop_2 ⟨Nat.le_of_ble_eq_true rfl, Nat.le_of_ble_eq_true rfl⟩) (fun r_1 u H locs hw_2 hP hD hS => ?_)
  obtain ⟨ws_3, th1_4⟩ := u
  obtain ⟨hT, hp_5⟩ := hw_2
  have hp_5 : ((r_1 = 0 ∧ (0 ≤ p1.toInt ∧ p1.toInt < (G 9).toInt) ∧ th1_4 = 0) ∨ (r_1 = 1 ∧ ¬ (0 ≤ p1.toInt ∧ p1.toInt < (G 9).toInt) ∧ th1_4 = 1)) := hp_5
  obtain ⟨hP, hD⟩ := ty_shPD (w2 := ([(rf_MO mo mw ma mf m0 m1 mu mv u0 u1 iz th1_4 mb mn mpt mbg mwr mwk mlf men), (rf_RW ct 0 mw 958 f)] ++ ws_3)) hP hD rfl
  rcases hp_5 with ⟨rfl, hz_6⟩ | ⟨rfl, hz_7⟩
  · have he_8 := hz_6.2
    have hP : va_P D vwCl ([(rf_MO mo mw ma mf m0 m1 mu mv u0 u1 iz (0) mb mn mpt mbg mwr mwk mlf men), (rf_RW ct 0 mw 958 f)] ++ ws_3) H := by rw [he_8] at hP; exact hP
    have hD : va_D A ([(rf_MO mo mw ma mf m0 m1 mu mv u0 u1 iz (0) mb mn mpt mbg mwr mwk mlf men), (rf_RW ct 0 mw 958 f)] ++ ws_3) := by rw [he_8] at hD; exact hD
    refine lv_if_eq (tgt := 10) hx hb dX11_stop_5 (by decide) (fun _ => ?_) (fun hc => absurd (by decide) hc)
    refine lv_aload_n hx hb dX11_stop_10 rfl (lv_at hl 0 rfl) ?_
    refine lv_iload_n hx hb dX11_stop_11 rfl (lv_at hl 1 rfl) ?_
    refine lv_iconst (v := 0) hx hb dX11_stop_12 (by decide) ?_
    obtain ⟨hP, hD⟩ := ty_ipPD (E1 := []) (E2 := [(rf_MO mo mw ma mf m0 m1 mu mv u0 u1 iz (0) mb mn mpt mbg mwr mwk mlf men), (rf_RW ct 0 mw 958 f)]) hP hD rfl ty_mva
    refine ty_Ki hP hD hS hA (va_runV (As := [.int p1, .int 0]) (rest := []) ⟨hx, hb, hml, hown, hts⟩ (m_of_0 l D ct S ws_3 ph xx mo mw ma mf m0 m1 mu mv u0 u1 iz mb (0 : Int32) mn mpt mbg mwr mwk mlf men f G (-1) p1 _ hT hph hy1 hR hz_6.1) (cm_V 2 hts kc_X11_of ki_RX11 kl_RX11_209 kv_X11_of kx_X11_of kd_X11_of ⟨Nat.le_of_ble_eq_true rfl, Nat.le_of_ble_eq_true rfl⟩) (ty_preE (ci := 11) (q0 := 0) hP hK hD hS hA hX rfl rfl) rfl rfl hl.1 rfl (lv_room (Nat.le_of_ble_eq_true rfl)) dX11_stop_13 ⟨Nat.le_of_ble_eq_true rfl, Nat.le_of_ble_eq_true rfl⟩) (fun r_9 u H locs hw_10 hP hD hS => ?_)
    obtain ⟨ws_11, rfl⟩ : ∃ z, z = u := ⟨_, rfl⟩
    obtain ⟨hT, rfl⟩ := hw_10
    obtain ⟨hP, hD⟩ := ty_shPD (w2 := ([(rf_MO mo mw ma mf m0 m1 mu mv u0 u1 iz (0) mb mn mpt mbg mwr mwk mlf men), (rf_RW ct 0 mw 958 f)] ++ ws_11)) hP hD rfl
    refine lv_istore_n (lv' := [(2, .int (rf_of f p1 0)), (0, .ref mo), (1, .int p1)]) hx hb dX11_stop_16 rfl hl (by decide) rfl (fun ls hl => ?_)
    refine lv_aload_n hx hb dX11_stop_17 rfl (lv_at hl 1 rfl) ?_
    refine lv_iload_n hx hb dX11_stop_18 rfl (lv_at hl 2 rfl) ?_
    refine lv_iconst (v := 0) hx hb dX11_stop_19 (by decide) ?_
    refine lv_iconst (v := 0) hx hb dX11_stop_20 (by decide) ?_
    obtain ⟨hP, hD⟩ := ty_ipPD (E1 := []) (E2 := [(rf_MO mo mw ma mf m0 m1 mu mv u0 u1 iz (0) mb mn mpt mbg mwr mwk mlf men), (rf_RW ct 0 mw 958 f)]) hP hD rfl ty_mva
    refine ty_Kv hP hD hS hA (va_runV (As := [.int p1, .int 0, .int 0]) (rest := []) ⟨hx, hb, hml, hown, hts⟩ (m_put_0 l D ct S ws_11 ph xx mo mw ma mf m0 m1 mu mv u0 u1 iz mb (0 : Int32) mn mpt mbg mwr mwk mlf men f G (-1) p1 (0 : Int32) _ hT hph hy1 hR hz_6.1 (Or.inl rfl)) (cm_V 3 hts kc_X11_put ki_RX11 kl_RX11_234 kv_X11_put kx_X11_put kd_X11_put ⟨Nat.le_of_ble_eq_true rfl, Nat.le_of_ble_eq_true rfl⟩) (ty_preE (ci := 11) (q0 := 0) hP hK hD hS hA hX rfl rfl) rfl rfl hl.1 rfl (lv_room (Nat.le_of_ble_eq_true rfl)) dX11_stop_21 ⟨Nat.le_of_ble_eq_true rfl, Nat.le_of_ble_eq_true rfl⟩) (fun u H locs hw_13 hP hD hS => ?_)
    obtain ⟨ws_14, f1_15⟩ := u
    obtain ⟨hT, hp_16⟩ := hw_13
    have hp_16 : rf_d (f 8) f f1_15 ∧ rf_R G p1.toInt f1_15 ∧ f1_15 = upd f (244 + 54 * p1.toInt.toNat + 0) (0 : Int32) := hp_16
    obtain ⟨hd_17, hq_18⟩ := hp_16
    have hD_19 := rf_dt (rf_dr f) hd_17
    have hR_20 := hq_18.1
    obtain ⟨hP, hD⟩ := ty_shPD (w2 := ([(rf_MO mo mw ma mf m0 m1 mu mv u0 u1 iz (0) mb mn mpt mbg mwr mwk mlf men), (rf_RW ct 0 mw 958 f1_15)] ++ ws_14)) hP hD rfl
    have e_22 : rf_of f1_15 p1 0 = 0 := by rw [hq_18.2]; exact rf_eq
    refine lv_aload_n hx hb dX11_stop_24 rfl (lv_at hl 1 rfl) ?_
    refine lv_iload_n hx hb dX11_stop_25 rfl (lv_at hl 2 rfl) ?_
    refine lv_iconst (v := 2) hx hb dX11_stop_26 (by decide) ?_
    refine lv_iconst (v := (-1)) hx hb dX11_stop_27 (by decide) ?_
    obtain ⟨hP, hD⟩ := ty_ipPD (E1 := []) (E2 := [(rf_MO mo mw ma mf m0 m1 mu mv u0 u1 iz (0) mb mn mpt mbg mwr mwk mlf men), (rf_RW ct 0 mw 958 f1_15)]) hP hD rfl ty_mva
    refine ty_Kv hP hD hS hA (va_runV (As := [.int p1, .int 2, .int (-1)]) (rest := []) ⟨hx, hb, hml, hown, hts⟩ (m_put_2 l D ct S ws_14 ph xx mo mw ma mf m0 m1 mu mv u0 u1 iz mb (0 : Int32) mn mpt mbg mwr mwk mlf men f1_15 G p1.toInt p1 ((-1) : Int32) _ hT hph hy1 hR_20 hz_6.1 (Or.inr rfl) (fun _ => (show -1 ≤ (-1 : Int32).toInt ∧ (-1 : Int32).toInt ≤ 11 from by decide))) (cm_V 3 hts kc_X11_put ki_RX11 kl_RX11_234 kv_X11_put kx_X11_put kd_X11_put ⟨Nat.le_of_ble_eq_true rfl, Nat.le_of_ble_eq_true rfl⟩) (ty_preE (ci := 11) (q0 := 0) hP hK hD hS hA hX rfl rfl) rfl rfl hl.1 rfl (lv_room (Nat.le_of_ble_eq_true rfl)) dX11_stop_28 ⟨Nat.le_of_ble_eq_true rfl, Nat.le_of_ble_eq_true rfl⟩) (fun u H locs hw_24 hP hD hS => ?_)
    obtain ⟨ws_25, f1_26⟩ := u
    obtain ⟨hT, hp_27⟩ := hw_24
    have hp_27 : rf_d (f1_15 8) f1_15 f1_26 ∧ rf_R G p1.toInt f1_26 ∧ f1_26 = upd f1_15 (244 + 54 * p1.toInt.toNat + 2) ((-1) : Int32) := hp_27
    obtain ⟨hd_28, hq_29⟩ := hp_27
    have hD_30 := rf_dt hD_19 hd_28
    have hR_31 := hq_29.1
    obtain ⟨hP, hD⟩ := ty_shPD (w2 := ([(rf_MO mo mw ma mf m0 m1 mu mv u0 u1 iz (0) mb mn mpt mbg mwr mwk mlf men), (rf_RW ct 0 mw 958 f1_26)] ++ ws_25)) hP hD rfl
    have e_33 : rf_of f1_26 p1 0 = 0 := by rw [hq_29.2]; exact (rf_ne (by decide)).trans e_22
    refine lv_aload_n hx hb dX11_stop_31 rfl (lv_at hl 1 rfl) ?_
    refine lv_iload_n hx hb dX11_stop_32 rfl (lv_at hl 2 rfl) ?_
    refine lv_iconst (v := 3) hx hb dX11_stop_33 (by decide) ?_
    refine lv_iconst (v := 0) hx hb dX11_stop_34 (by decide) ?_
    obtain ⟨hP, hD⟩ := ty_ipPD (E1 := []) (E2 := [(rf_MO mo mw ma mf m0 m1 mu mv u0 u1 iz (0) mb mn mpt mbg mwr mwk mlf men), (rf_RW ct 0 mw 958 f1_26)]) hP hD rfl ty_mva
    refine ty_Kv hP hD hS hA (va_runV (As := [.int p1, .int 3, .int 0]) (rest := []) ⟨hx, hb, hml, hown, hts⟩ (m_put_3 l D ct S ws_25 ph xx mo mw ma mf m0 m1 mu mv u0 u1 iz mb (0 : Int32) mn mpt mbg mwr mwk mlf men f1_26 G p1.toInt p1 (0 : Int32) _ hT hph hy1 hR_31 hz_6.1) (cm_V 3 hts kc_X11_put ki_RX11 kl_RX11_234 kv_X11_put kx_X11_put kd_X11_put ⟨Nat.le_of_ble_eq_true rfl, Nat.le_of_ble_eq_true rfl⟩) (ty_preE (ci := 11) (q0 := 0) hP hK hD hS hA hX rfl rfl) rfl rfl hl.1 rfl (lv_room (Nat.le_of_ble_eq_true rfl)) dX11_stop_35 ⟨Nat.le_of_ble_eq_true rfl, Nat.le_of_ble_eq_true rfl⟩) (fun u H locs hw_35 hP hD hS => ?_)
    obtain ⟨ws_36, f1_37⟩ := u
    obtain ⟨hT, hp_38⟩ := hw_35
    have hp_38 : rf_d (f1_26 8) f1_26 f1_37 ∧ rf_R G p1.toInt f1_37 ∧ rf_sm f1_26 f1_37 ∧ f1_37 = upd f1_26 (244 + 54 * p1.toInt.toNat + 3) (0 : Int32) := hp_38
    obtain ⟨hd_39, hq_40⟩ := hp_38
    have hD_41 := rf_dt hD_30 hd_39
    have hR_42 := hq_40.1
    obtain ⟨hP, hD⟩ := ty_shPD (w2 := ([(rf_MO mo mw ma mf m0 m1 mu mv u0 u1 iz (0) mb mn mpt mbg mwr mwk mlf men), (rf_RW ct 0 mw 958 f1_37)] ++ ws_36)) hP hD rfl
    have e_44 : rf_of f1_37 p1 0 = 0 := by rw [hq_40.2.2]; exact (rf_ne (by decide)).trans e_33
    refine lv_iload_n hx hb dX11_stop_38 rfl (lv_at hl 0 rfl) ?_
    have hR_45 := rf_back9 (hz_6.1).1 hR_42 (Or.inr rfl) (rf_runno (by rw [e_44]; decide) (by rw [e_44]; decide))
    exact W.iret (v := (rf_of f p1 0)) hx hb hr (fun t ht hW => ⟨⟨(rf_of f p1 0), (ws_36, (0 : Int32), f1_37), rfl, ⟨hT, ⟨⟨th1_4, trivial, (Or.inl ⟨hz_6, ⟨f1_15, hq_18.2, ⟨f1_26, hq_29.2, ⟨f1_37, hq_40.2.2, ⟨rfl, rfl, rfl⟩⟩⟩⟩⟩)⟩, ⟨hD_41, hR_45⟩⟩⟩, by rw [ht]; exact hP, by rw [hAe]; exact hD⟩, hS.F ht⟩) hS.2.2 dX11_stop_39
  · have he_46 := hz_7.2
    have hP : va_P D vwCl ([(rf_MO mo mw ma mf m0 m1 mu mv u0 u1 iz (1) mb mn mpt mbg mwr mwk mlf men), (rf_RW ct 0 mw 958 f)] ++ ws_3) H := by rw [he_46] at hP; exact hP
    have hD : va_D A ([(rf_MO mo mw ma mf m0 m1 mu mv u0 u1 iz (1) mb mn mpt mbg mwr mwk mlf men), (rf_RW ct 0 mw 958 f)] ++ ws_3) := by rw [he_46] at hD; exact hD
    refine lv_if_eq (tgt := 10) hx hb dX11_stop_5 (by decide) (fun hc => absurd hc (by decide)) (fun _ => ?_)
    refine lv_iconst (v := 0) hx hb dX11_stop_8 (by decide) ?_
    exact W.iret (v := 0) hx hb hr (fun t ht hW => ⟨⟨0, (ws_3, (1 : Int32), f), rfl, ⟨hT, ⟨⟨th1_4, trivial, (Or.inr ⟨hz_7, ⟨rfl, rfl, rfl⟩⟩)⟩, ⟨(rf_dr f), hR⟩⟩⟩, by rw [ht]; exact hP, by rw [hAe]; exact hD⟩, hS.F ht⟩) hS.2.2 dX11_stop_9
def q_X11_skip (f : Nat → Int32) (G : Nat → Int32) (su : Nat → Int64) (p1 : Int32) (r : Int32) (th1 : Int32) (f1 : Nat → Int32) (su1 : Nat → Int64) : Prop := (∃ (th1_4 : Int32), True ∧ ((((0 ≤ p1.toInt ∧ p1.toInt < (G 9).toInt) ∧ th1_4 = 0) ∧ ((¬ rf_of f p1 0 = (1 : Int32) ∧ (r = (-3) ∧ th1 = 0 ∧ f1 = f ∧ su1 = su)) ∨ (rf_of f p1 0 = (1 : Int32) ∧ (∃ (f1_21 : Nat → Int32) (su1_22 : Nat → Int64), (q_comes f G su p1 ((rf_of f p1 2) + 1) f1_21 su1_22) ∧ (r = (rf_of f1_21 p1 2) ∧ th1 = 0 ∧ f1 = f1_21 ∧ su1 = su1_22))))) ∨ ((¬ (0 ≤ p1.toInt ∧ p1.toInt < (G 9).toInt) ∧ th1_4 = 1) ∧ (r = 0 ∧ th1 = 1 ∧ f1 = f ∧ su1 = su))))
set_option maxRecDepth 100000 in
set_option maxHeartbeats 4000000 in
theorem m_X11_skip (l : Launch) (D : va_G) (ct : Nat → ClassId) (S : ty_S) (ws : va_W) (ph : va_W → Prop) (xx : Nat → Nat → Nat → Prop) (mo : Nat) (mw : Nat) (ma : Nat) (mf : Nat) (m0 : Nat) (m1 : Nat) (mu : Nat) (mv : Nat) (u0 : Nat) (u1 : Nat) (iz : Nat) (mb : Nat) (th : Int32) (mn : Int32) (mpt : Int32) (mbg : Int32) (mwr : Int32) (mwk : Int32) (mlf : Int32) (men : Int32) (f : Nat → Int32) (G : Nat → Int32) (su : Nat → Int64) (p1 : Int32) (sz : Nat) (hT : ty_V ct S ph ws) (hph : ty_C ph xx) (hy1 : ty_y1 xx) (hy11 : ty_y0 xx 11) (hR : rf_R G (-1) f) : Met l yX11_skip (ws_ yX11_skip cX11_skip 2 (some .int)) ({ frames := 5, cells := 0, slots := 0, locals := 118 } : Room) (va_Pc [.ref mo, .int p1] (cmP D ct sz ([(rf_MO mo mw ma mf m0 m1 mu mv u0 u1 iz th mb mn mpt mbg mwr mwk mlf men), (rf_RW ct 0 mw 958 f), (mu, .inl (ct 1, 42, .inr (.inl su)))] ++ ws))) (va_Qi (fun (r : Int32) (u : va_W × Int32 × (Nat → Int32) × (Nat → Int64)) => match u with | (u9, th1, f1, su1) => ty_V ct S ph u9 ∧ (q_X11_skip f G su p1 r th1 f1 su1) ∧ rf_d (f 8) f f1 ∧ rf_R G (-1) f1) (cmB D ([(rf_MO mo mw ma mf m0 m1 mu mv u0 u1 iz th mb mn mpt mbg mwr mwk mlf men), (rf_RW ct 0 mw 958 f), (mu, .inl (ct 1, 42, .inr (.inl su)))] ++ ws) sz (fun (u : va_W × Int32 × (Nat → Int32) × (Nat → Int64)) => match u with | (u9, th1, f1, su1) => ([(rf_MO mo mw ma mf m0 m1 mu mv u0 u1 iz th1 mb mn mpt mbg mwr mwk mlf men), (rf_RW ct 0 mw 958 f1), (mu, .inl (ct 1, 42, .inr (.inl su1)))] ++ u9))) (va_A ([(rf_MO mo mw ma mf m0 m1 mu mv u0 u1 iz th mb mn mpt mbg mwr mwk mlf men), (rf_RW ct 0 mw 958 f), (mu, .inl (ct 1, 42, .inr (.inl su)))] ++ ws) sz)) 0 0 (va_A ([(rf_MO mo mw ma mf m0 m1 mu mv u0 u1 iz th mb mn mpt mbg mwr mwk mlf men), (rf_RW ct 0 mw 958 f), (mu, .inl (ct 1, 42, .inr (.inl su)))] ++ ws) sz) := by
  refine Met.ofW (cc := cX11_skip) (maxL := 2) (ret := (some .int)) (by decide) rfl ?_
  intro p e s m args below meth c s₁ B hml hv
  obtain ⟨rfl, hsz, hP, hK, hD0, hX⟩ := hv
  have hx := B.exec
  have hb := B.bytes
  have hr := B.returns
  have hts := ws_all (atoms_spec (ws := ws_ yX11_skip cX11_skip 2 (some .int)) B.pre)
  have hown : s.vm.findClass RX11 = some m.cls := findClass_of_methodNamed B.named
  have hlocks := B.notSynchronized
  subst hsz
  have hD := hD0.self (sz := s.heap.size)
  generalize hAe : va_A ([(rf_MO mo mw ma mf m0 m1 mu mv u0 u1 iz th mb mn mpt mbg mwr mwk mlf men), (rf_RW ct 0 mw 958 f), (mu, .inl (ct 1, 42, .inr (.inl su)))] ++ ws) s.heap.size = A at hD hX ⊢
  have hA : ∀ q : Nat, s.heap.size ≤ q → A q := fun q h => by rw [← hAe]; exact Or.inr h
  have hS : va_S A s.heap s.heap [] := va_S.rf
  have hl := lv_entry ([.ref mo, .int p1]) (n := 2) (Nat.le_of_ble_eq_true rfl)
  rw [lg_entry_eq]
  generalize (lg_sl ([.ref mo, .int p1]) ++ List.replicate (2 - (lg_sl ([.ref mo, .int p1])).length) Slot.unset).toArray = ls at hl ⊢
  have hl : lv_has ls 2 [(0, .ref mo), (1, .int p1)] := hl
  refine lv_aload_n hx hb dX11_skip_0 rfl (lv_at hl 0 rfl) ?_
  refine lv_iload_n hx hb dX11_skip_1 rfl (lv_at hl 1 rfl) ?_
  obtain ⟨hP, hD⟩ := ty_opPD (E1 := [(mu, .inl (ct 1, 42, .inr (.inl su)))]) (E2 := [(rf_MO mo mw ma mf m0 m1 mu mv u0 u1 iz th mb mn mpt mbg mwr mwk mlf men), (rf_RW ct 0 mw 958 f)]) (n := 3) [2, 0, 1] hP hD rfl rfl (by decide +kernel) ty_mva
  refine ty_Ki hP hD hS hA (va_runV (As := [.int p1]) (rest := []) ⟨hx, hb, hml, hown, hts⟩ (m_X11_noChannel l D ct S ws ph xx mo mw ma mf m0 m1 mu mv u0 u1 iz mb th mn mpt mbg mwr mwk mlf men f G (-1) p1 _ hT hph hy1 hR) (cm_V 1 hts kc_X11_noChannel ki_RX11 kl_RX11_344 kv_X11_noChannel kx_X11_noChannel kd_X11_noChannel ⟨Nat.le_of_ble_eq_true rfl, Nat.le_of_ble_eq_true rfl⟩) (ty_preE (ci := 11) (q0 := 1) hP hK hD hS hA hX rfl rfl) rfl rfl hl.1 rfl (lv_room (Nat.le_of_ble_eq_true rfl)) dX11_skip_2 ⟨Nat.le_of_ble_eq_true rfl, Nat.le_of_ble_eq_true rfl⟩) (fun r_1 u H locs hw_2 hP hD hS => ?_)
  obtain ⟨ws_3, th1_4⟩ := u
  obtain ⟨hT, hp_5⟩ := hw_2
  have hp_5 : ((r_1 = 0 ∧ (0 ≤ p1.toInt ∧ p1.toInt < (G 9).toInt) ∧ th1_4 = 0) ∨ (r_1 = 1 ∧ ¬ (0 ≤ p1.toInt ∧ p1.toInt < (G 9).toInt) ∧ th1_4 = 1)) := hp_5
  obtain ⟨hP, hD⟩ := ty_shPD (w2 := ([(mu, .inl (ct 1, 42, .inr (.inl su))), (rf_MO mo mw ma mf m0 m1 mu mv u0 u1 iz th1_4 mb mn mpt mbg mwr mwk mlf men), (rf_RW ct 0 mw 958 f)] ++ ws_3)) hP hD rfl
  rcases hp_5 with ⟨rfl, hz_6⟩ | ⟨rfl, hz_7⟩
  · have he_8 := hz_6.2
    have hP : va_P D vwCl ([(mu, .inl (ct 1, 42, .inr (.inl su))), (rf_MO mo mw ma mf m0 m1 mu mv u0 u1 iz (0) mb mn mpt mbg mwr mwk mlf men), (rf_RW ct 0 mw 958 f)] ++ ws_3) H := by rw [he_8] at hP; exact hP
    have hD : va_D A ([(mu, .inl (ct 1, 42, .inr (.inl su))), (rf_MO mo mw ma mf m0 m1 mu mv u0 u1 iz (0) mb mn mpt mbg mwr mwk mlf men), (rf_RW ct 0 mw 958 f)] ++ ws_3) := by rw [he_8] at hD; exact hD
    refine lv_if_eq (tgt := 10) hx hb dX11_skip_5 (by decide) (fun _ => ?_) (fun hc => absurd (by decide) hc)
    refine lv_aload_n hx hb dX11_skip_10 rfl (lv_at hl 0 rfl) ?_
    refine lv_iload_n hx hb dX11_skip_11 rfl (lv_at hl 1 rfl) ?_
    refine lv_iconst (v := 1) hx hb dX11_skip_12 (by decide) ?_
    obtain ⟨hP, hD⟩ := ty_ipPD (E1 := [(mu, .inl (ct 1, 42, .inr (.inl su)))]) (E2 := [(rf_MO mo mw ma mf m0 m1 mu mv u0 u1 iz (0) mb mn mpt mbg mwr mwk mlf men), (rf_RW ct 0 mw 958 f)]) hP hD rfl ty_mva
    refine ty_Ki hP hD hS hA (va_runV (As := [.int p1, .int 1]) (rest := []) ⟨hx, hb, hml, hown, hts⟩ (m_X11_isIn l D ct S ws_3 ph xx mo mw ma mf m0 m1 mu mv u0 u1 iz mb (0 : Int32) mn mpt mbg mwr mwk mlf men f G (-1) p1 (1 : Int32) _ hT hph hy1 hR hz_6.1) (cm_V 2 hts kc_X11_isIn ki_RX11 kl_RX11_350 kv_X11_isIn kx_X11_isIn kd_X11_isIn ⟨Nat.le_of_ble_eq_true rfl, Nat.le_of_ble_eq_true rfl⟩) (ty_preE (ci := 11) (q0 := 1) hP hK hD hS hA hX rfl rfl) rfl rfl hl.1 rfl (lv_room (Nat.le_of_ble_eq_true rfl)) dX11_skip_13 ⟨Nat.le_of_ble_eq_true rfl, Nat.le_of_ble_eq_true rfl⟩) (fun r_9 u H locs hw_10 hP hD hS => ?_)
    obtain ⟨ws_11, rfl⟩ : ∃ z, z = u := ⟨_, rfl⟩
    obtain ⟨hT, hp_12⟩ := hw_10
    have hp_12 : ((r_9 = 0 ∧ ¬ rf_of f p1 0 = (1 : Int32)) ∨ (r_9 = 1 ∧ rf_of f p1 0 = (1 : Int32))) := hp_12
    obtain ⟨hP, hD⟩ := ty_shPD (w2 := ([(mu, .inl (ct 1, 42, .inr (.inl su))), (rf_MO mo mw ma mf m0 m1 mu mv u0 u1 iz (0) mb mn mpt mbg mwr mwk mlf men), (rf_RW ct 0 mw 958 f)] ++ ws_11)) hP hD rfl
    rcases hp_12 with ⟨rfl, hz_13⟩ | ⟨rfl, hz_14⟩
    · refine lv_if_ne (tgt := 22) hx hb dX11_skip_16 (by decide) (fun hc => absurd (by decide) hc) (fun _ => ?_)
      refine lv_bipush (v := (-3)) hx hb dX11_skip_19 (by decide) ?_
      obtain ⟨hP, hD⟩ := ty_ordPD (E2 := [(rf_MO mo mw ma mf m0 m1 mu mv u0 u1 iz (0) mb mn mpt mbg mwr mwk mlf men), (rf_RW ct 0 mw 958 f), (mu, .inl (ct 1, 42, .inr (.inl su)))]) (n := 3) [1, 2, 0] hP hD rfl rfl (by decide +kernel)
      exact W.iret (v := (-3)) hx hb hr (fun t ht hW => ⟨⟨(-3), (ws_11, (0 : Int32), f, su), rfl, ⟨hT, ⟨⟨th1_4, trivial, (Or.inl ⟨hz_6, (Or.inl ⟨hz_13, ⟨rfl, rfl, rfl, rfl⟩⟩)⟩)⟩, ⟨(rf_dr f), hR⟩⟩⟩, by rw [ht]; exact hP, by rw [hAe]; exact hD⟩, hS.F ht⟩) hS.2.2 dX11_skip_21
    · refine lv_if_ne (tgt := 22) hx hb dX11_skip_16 (by decide) (fun _ => ?_) (fun hc => absurd hc (by decide))
      refine lv_aload_n hx hb dX11_skip_22 rfl (lv_at hl 0 rfl) ?_
      refine lv_iload_n hx hb dX11_skip_23 rfl (lv_at hl 1 rfl) ?_
      refine lv_aload_n hx hb dX11_skip_24 rfl (lv_at hl 0 rfl) ?_
      refine lv_iload_n hx hb dX11_skip_25 rfl (lv_at hl 1 rfl) ?_
      refine lv_iconst (v := 2) hx hb dX11_skip_26 (by decide) ?_
      obtain ⟨hP, hD⟩ := ty_ipPD (E1 := [(mu, .inl (ct 1, 42, .inr (.inl su)))]) (E2 := [(rf_MO mo mw ma mf m0 m1 mu mv u0 u1 iz (0) mb mn mpt mbg mwr mwk mlf men), (rf_RW ct 0 mw 958 f)]) hP hD rfl ty_mva
      refine ty_Ki hP hD hS hA (va_runV (As := [.int p1, .int 2]) (rest := [.int p1, .ref mo]) ⟨hx, hb, hml, hown, hts⟩ (m_of_2 l D ct S ws_11 ph xx mo mw ma mf m0 m1 mu mv u0 u1 iz mb (0 : Int32) mn mpt mbg mwr mwk mlf men f G (-1) p1 _ hT hph hy1 hR hz_6.1) (cm_V 2 hts kc_X11_of ki_RX11 kl_RX11_209 kv_X11_of kx_X11_of kd_X11_of ⟨Nat.le_of_ble_eq_true rfl, Nat.le_of_ble_eq_true rfl⟩) (ty_preE (ci := 11) (q0 := 1) hP hK hD hS hA hX rfl rfl) rfl rfl hl.1 rfl (lv_room (Nat.le_of_ble_eq_true rfl)) dX11_skip_27 ⟨Nat.le_of_ble_eq_true rfl, Nat.le_of_ble_eq_true rfl⟩) (fun r_15 u H locs hw_16 hP hD hS => ?_)
      obtain ⟨ws_17, rfl⟩ : ∃ z, z = u := ⟨_, rfl⟩
      obtain ⟨hT, rfl⟩ := hw_16
      obtain ⟨hP, hD⟩ := ty_shPD (w2 := ([(mu, .inl (ct 1, 42, .inr (.inl su))), (rf_MO mo mw ma mf m0 m1 mu mv u0 u1 iz (0) mb mn mpt mbg mwr mwk mlf men), (rf_RW ct 0 mw 958 f)] ++ ws_17)) hP hD rfl
      refine lv_iconst (v := 1) hx hb dX11_skip_30 (by decide) ?_
      refine lv_iadd hx hb dX11_skip_31 ?_
      obtain ⟨hP, hD⟩ := ty_opPD (E1 := []) (E2 := [(rf_MO mo mw ma mf m0 m1 mu mv u0 u1 iz (0) mb mn mpt mbg mwr mwk mlf men), (rf_RW ct 0 mw 958 f), (mu, .inl (ct 1, 42, .inr (.inl su)))]) (n := 3) [1, 2, 0] hP hD rfl rfl (by decide +kernel) ty_mva
      refine ty_Kv hP hD hS hA (va_runV (As := [.int p1, .int ((rf_of f p1 2) + 1)]) (rest := []) ⟨hx, hb, hml, hown, hts⟩ (m_comes l D ct S ws_17 ph xx mo mw ma mf m0 m1 mu mv u0 u1 iz mb (0 : Int32) mn mpt mbg mwr mwk mlf men f G (-1) su p1 ((rf_of f p1 2) + 1) _ hT hph hy1 hy11 hR hz_6.1 (Or.inl rfl) (rf_onr hR hz_6.1 (Or.inl hz_14)).1 (rf_on1 hR (rf_onr hR hz_6.1 (Or.inl hz_14)))) (cm_V 2 hts kc_X11_comes ki_RX11 kl_RX11_291 kv_X11_comes kx_X11_comes kd_X11_comes ⟨Nat.le_of_ble_eq_true rfl, Nat.le_of_ble_eq_true rfl⟩) (ty_preE (ci := 11) (q0 := 0) hP hK hD hS hA hX rfl rfl) rfl rfl hl.1 rfl (lv_room (Nat.le_of_ble_eq_true rfl)) dX11_skip_32 ⟨Nat.le_of_ble_eq_true rfl, Nat.le_of_ble_eq_true rfl⟩) (fun u H locs hw_19 hP hD hS => ?_)
      obtain ⟨ws_20, f1_21, su1_22⟩ := u
      obtain ⟨hT, hp_23⟩ := hw_19
      have hp_23 : (q_comes f G su p1 ((rf_of f p1 2) + 1) f1_21 su1_22) ∧ rf_d (f 8) f f1_21 ∧ rf_R G (-1) f1_21 := hp_23
      obtain ⟨hq_24, hp_25⟩ := hp_23
      obtain ⟨hd_26, hq_27⟩ := hp_25
      have hD_28 := rf_dt (rf_dr f) hd_26
      have hR_29 := hq_27
      obtain ⟨hP, hD⟩ := ty_shPD (w2 := ([(rf_MO mo mw ma mf m0 m1 mu mv u0 u1 iz (0) mb mn mpt mbg mwr mwk mlf men), (rf_RW ct 0 mw 958 f1_21), (mu, .inl (ct 1, 42, .inr (.inl su1_22)))] ++ ws_20)) hP hD rfl
      refine lv_aload_n hx hb dX11_skip_35 rfl (lv_at hl 0 rfl) ?_
      refine lv_iload_n hx hb dX11_skip_36 rfl (lv_at hl 1 rfl) ?_
      refine lv_iconst (v := 2) hx hb dX11_skip_37 (by decide) ?_
      obtain ⟨hP, hD⟩ := ty_opPD (E1 := [(mu, .inl (ct 1, 42, .inr (.inl su1_22)))]) (E2 := [(rf_MO mo mw ma mf m0 m1 mu mv u0 u1 iz (0) mb mn mpt mbg mwr mwk mlf men), (rf_RW ct 0 mw 958 f1_21)]) (n := 3) [2, 0, 1] hP hD rfl rfl (by decide +kernel) ty_mva
      refine ty_Ki hP hD hS hA (va_runV (As := [.int p1, .int 2]) (rest := []) ⟨hx, hb, hml, hown, hts⟩ (m_of_2 l D ct S ws_20 ph xx mo mw ma mf m0 m1 mu mv u0 u1 iz mb (0 : Int32) mn mpt mbg mwr mwk mlf men f1_21 G (-1) p1 _ hT hph hy1 hR_29 hz_6.1) (cm_V 2 hts kc_X11_of ki_RX11 kl_RX11_209 kv_X11_of kx_X11_of kd_X11_of ⟨Nat.le_of_ble_eq_true rfl, Nat.le_of_ble_eq_true rfl⟩) (ty_preE (ci := 11) (q0 := 1) hP hK hD hS hA hX rfl rfl) rfl rfl hl.1 rfl (lv_room (Nat.le_of_ble_eq_true rfl)) dX11_skip_38 ⟨Nat.le_of_ble_eq_true rfl, Nat.le_of_ble_eq_true rfl⟩) (fun r_31 u H locs hw_32 hP hD hS => ?_)
      obtain ⟨ws_33, rfl⟩ : ∃ z, z = u := ⟨_, rfl⟩
      obtain ⟨hT, rfl⟩ := hw_32
      obtain ⟨hP, hD⟩ := ty_shPD (w2 := ([(mu, .inl (ct 1, 42, .inr (.inl su1_22))), (rf_MO mo mw ma mf m0 m1 mu mv u0 u1 iz (0) mb mn mpt mbg mwr mwk mlf men), (rf_RW ct 0 mw 958 f1_21)] ++ ws_33)) hP hD rfl
      obtain ⟨hP, hD⟩ := ty_ordPD (E2 := [(rf_MO mo mw ma mf m0 m1 mu mv u0 u1 iz (0) mb mn mpt mbg mwr mwk mlf men), (rf_RW ct 0 mw 958 f1_21), (mu, .inl (ct 1, 42, .inr (.inl su1_22)))]) (n := 3) [1, 2, 0] hP hD rfl rfl (by decide +kernel)
      exact W.iret (v := (rf_of f1_21 p1 2)) hx hb hr (fun t ht hW => ⟨⟨(rf_of f1_21 p1 2), (ws_33, (0 : Int32), f1_21, su1_22), rfl, ⟨hT, ⟨⟨th1_4, trivial, (Or.inl ⟨hz_6, (Or.inr ⟨hz_14, ⟨f1_21, su1_22, hq_24, ⟨rfl, rfl, rfl, rfl⟩⟩⟩)⟩)⟩, ⟨hD_28, hR_29⟩⟩⟩, by rw [ht]; exact hP, by rw [hAe]; exact hD⟩, hS.F ht⟩) hS.2.2 dX11_skip_41
  · have he_34 := hz_7.2
    have hP : va_P D vwCl ([(mu, .inl (ct 1, 42, .inr (.inl su))), (rf_MO mo mw ma mf m0 m1 mu mv u0 u1 iz (1) mb mn mpt mbg mwr mwk mlf men), (rf_RW ct 0 mw 958 f)] ++ ws_3) H := by rw [he_34] at hP; exact hP
    have hD : va_D A ([(mu, .inl (ct 1, 42, .inr (.inl su))), (rf_MO mo mw ma mf m0 m1 mu mv u0 u1 iz (1) mb mn mpt mbg mwr mwk mlf men), (rf_RW ct 0 mw 958 f)] ++ ws_3) := by rw [he_34] at hD; exact hD
    refine lv_if_eq (tgt := 10) hx hb dX11_skip_5 (by decide) (fun hc => absurd hc (by decide)) (fun _ => ?_)
    refine lv_iconst (v := 0) hx hb dX11_skip_8 (by decide) ?_
    obtain ⟨hP, hD⟩ := ty_ordPD (E2 := [(rf_MO mo mw ma mf m0 m1 mu mv u0 u1 iz (1) mb mn mpt mbg mwr mwk mlf men), (rf_RW ct 0 mw 958 f), (mu, .inl (ct 1, 42, .inr (.inl su)))]) (n := 3) [1, 2, 0] hP hD rfl rfl (by decide +kernel)
    exact W.iret (v := 0) hx hb hr (fun t ht hW => ⟨⟨0, (ws_3, (1 : Int32), f, su), rfl, ⟨hT, ⟨⟨th1_4, trivial, (Or.inr ⟨hz_7, ⟨rfl, rfl, rfl, rfl⟩⟩)⟩, ⟨(rf_dr f), hR⟩⟩⟩, by rw [ht]; exact hP, by rw [hAe]; exact hD⟩, hS.F ht⟩) hS.2.2 dX11_skip_9
def q_X11_enqueue (f : Nat → Int32) (G : Nat → Int32) (p1 : Int32) (p2 : Int32) (r : Int32) (th1 : Int32) (f1 : Nat → Int32) : Prop := (∃ (th1_4 : Int32), True ∧ (((((0 ≤ p1.toInt ∧ p1.toInt < (G 9).toInt) ∧ 0 ≤ p2.toInt ∧ p2.toInt < (G 10).toInt) ∧ th1_4 = 0) ∧ ((¬ (rf_of f p1 39) = (4 : Int32) ∧ (∃ (f1_19 : Nat → Int32), f1_19 = upd f (244 + 54 * p1.toInt.toNat + (40 + (rf_of f p1 39)).toInt.toNat) p2 ∧ (∃ (f1_32 : Nat → Int32), f1_32 = upd f1_19 (244 + 54 * p1.toInt.toNat + 39) ((rf_of f1_19 p1 39) + 1) ∧ (r = (rf_of f1_32 p1 39) ∧ th1 = 0 ∧ f1 = f1_32)))) ∨ ((rf_of f p1 39) = (4 : Int32) ∧ (r = (-2) ∧ th1 = 0 ∧ f1 = f)))) ∨ ((¬ ((0 ≤ p1.toInt ∧ p1.toInt < (G 9).toInt) ∧ 0 ≤ p2.toInt ∧ p2.toInt < (G 10).toInt) ∧ th1_4 = 1) ∧ (r = 0 ∧ th1 = 1 ∧ f1 = f))))
set_option maxRecDepth 100000 in
set_option maxHeartbeats 4000000 in
theorem m_X11_enqueue (l : Launch) (D : va_G) (ct : Nat → ClassId) (S : ty_S) (ws : va_W) (ph : va_W → Prop) (xx : Nat → Nat → Nat → Prop) (mo : Nat) (mw : Nat) (ma : Nat) (mf : Nat) (m0 : Nat) (m1 : Nat) (mu : Nat) (mv : Nat) (u0 : Nat) (u1 : Nat) (iz : Nat) (mb : Nat) (th : Int32) (mn : Int32) (mpt : Int32) (mbg : Int32) (mwr : Int32) (mwk : Int32) (mlf : Int32) (men : Int32) (f : Nat → Int32) (G : Nat → Int32) (cx : Int) (p1 : Int32) (p2 : Int32) (sz : Nat) (hT : ty_V ct S ph ws) (hph : ty_C ph xx) (hy1 : ty_y1 xx) (hR : rf_R G cx f) : Met l yX11_enqueue (ws_ yX11_enqueue cX11_enqueue 3 (some .int)) ({ frames := 3, cells := 0, slots := 0, locals := 68 } : Room) (va_Pc [.ref mo, .int p1, .int p2] (cmP D ct sz ([(rf_MO mo mw ma mf m0 m1 mu mv u0 u1 iz th mb mn mpt mbg mwr mwk mlf men), (rf_RW ct 0 mw 958 f)] ++ ws))) (va_Qi (fun (r : Int32) (u : va_W × Int32 × (Nat → Int32)) => match u with | (u9, th1, f1) => ty_V ct S ph u9 ∧ (q_X11_enqueue f G p1 p2 r th1 f1) ∧ rf_d (f 8) f f1 ∧ rf_R G cx f1 ∧ rf_sm f f1) (cmB D ([(rf_MO mo mw ma mf m0 m1 mu mv u0 u1 iz th mb mn mpt mbg mwr mwk mlf men), (rf_RW ct 0 mw 958 f)] ++ ws) sz (fun (u : va_W × Int32 × (Nat → Int32)) => match u with | (u9, th1, f1) => ([(rf_MO mo mw ma mf m0 m1 mu mv u0 u1 iz th1 mb mn mpt mbg mwr mwk mlf men), (rf_RW ct 0 mw 958 f1)] ++ u9))) (va_A ([(rf_MO mo mw ma mf m0 m1 mu mv u0 u1 iz th mb mn mpt mbg mwr mwk mlf men), (rf_RW ct 0 mw 958 f)] ++ ws) sz)) 0 0 (va_A ([(rf_MO mo mw ma mf m0 m1 mu mv u0 u1 iz th mb mn mpt mbg mwr mwk mlf men), (rf_RW ct 0 mw 958 f)] ++ ws) sz) := by
  refine Met.ofW (cc := cX11_enqueue) (maxL := 3) (ret := (some .int)) (by decide) rfl ?_
  intro p e s m args below meth c s₁ B hml hv
  obtain ⟨rfl, hsz, hP, hK, hD0, hX⟩ := hv
  have hx := B.exec
  have hb := B.bytes
  have hr := B.returns
  have hts := ws_all (atoms_spec (ws := ws_ yX11_enqueue cX11_enqueue 3 (some .int)) B.pre)
  have hown : s.vm.findClass RX11 = some m.cls := findClass_of_methodNamed B.named
  have hlocks := B.notSynchronized
  subst hsz
  have hD := hD0.self (sz := s.heap.size)
  generalize hAe : va_A ([(rf_MO mo mw ma mf m0 m1 mu mv u0 u1 iz th mb mn mpt mbg mwr mwk mlf men), (rf_RW ct 0 mw 958 f)] ++ ws) s.heap.size = A at hD hX ⊢
  have hA : ∀ q : Nat, s.heap.size ≤ q → A q := fun q h => by rw [← hAe]; exact Or.inr h
  have hS : va_S A s.heap s.heap [] := va_S.rf
  have hl := lv_entry ([.ref mo, .int p1, .int p2]) (n := 3) (Nat.le_of_ble_eq_true rfl)
  rw [lg_entry_eq]
  generalize (lg_sl ([.ref mo, .int p1, .int p2]) ++ List.replicate (3 - (lg_sl ([.ref mo, .int p1, .int p2])).length) Slot.unset).toArray = ls at hl ⊢
  have hl : lv_has ls 3 [(0, .ref mo), (1, .int p1), (2, .int p2)] := hl
  refine lv_aload_n hx hb dX11_enqueue_0 rfl (lv_at hl 0 rfl) ?_
  refine lv_iload_n hx hb dX11_enqueue_1 rfl (lv_at hl 1 rfl) ?_
  refine lv_iload_n hx hb dX11_enqueue_2 rfl (lv_at hl 2 rfl) ?_
  obtain ⟨hP, hD⟩ := ty_ipPD (E1 := []) (E2 := [(rf_MO mo mw ma mf m0 m1 mu mv u0 u1 iz th mb mn mpt mbg mwr mwk mlf men), (rf_RW ct 0 mw 958 f)]) hP hD rfl ty_mva
  refine ty_Ki hP hD hS hA (va_runV (As := [.int p1, .int p2]) (rest := []) ⟨hx, hb, hml, hown, hts⟩ (m_X11_noProgram l D ct S ws ph xx mo mw ma mf m0 m1 mu mv u0 u1 iz mb th mn mpt mbg mwr mwk mlf men f G cx p1 p2 _ hT hph hy1 hR) (cm_V 2 hts kc_X11_noProgram ki_RX11 kl_RX11_347 kv_X11_noProgram kx_X11_noProgram kd_X11_noProgram ⟨Nat.le_of_ble_eq_true rfl, Nat.le_of_ble_eq_true rfl⟩) (ty_preE (ci := 11) (q0 := 0) hP hK hD hS hA hX rfl rfl) rfl rfl hl.1 rfl (lv_room (Nat.le_of_ble_eq_true rfl)) dX11_enqueue_3 ⟨Nat.le_of_ble_eq_true rfl, Nat.le_of_ble_eq_true rfl⟩) (fun r_1 u H locs hw_2 hP hD hS => ?_)
  obtain ⟨ws_3, th1_4⟩ := u
  obtain ⟨hT, hp_5⟩ := hw_2
  have hp_5 : ((r_1 = 0 ∧ ((0 ≤ p1.toInt ∧ p1.toInt < (G 9).toInt) ∧ 0 ≤ p2.toInt ∧ p2.toInt < (G 10).toInt) ∧ th1_4 = 0) ∨ (r_1 = 1 ∧ ¬ ((0 ≤ p1.toInt ∧ p1.toInt < (G 9).toInt) ∧ 0 ≤ p2.toInt ∧ p2.toInt < (G 10).toInt) ∧ th1_4 = 1)) := hp_5
  obtain ⟨hP, hD⟩ := ty_shPD (w2 := ([(rf_MO mo mw ma mf m0 m1 mu mv u0 u1 iz th1_4 mb mn mpt mbg mwr mwk mlf men), (rf_RW ct 0 mw 958 f)] ++ ws_3)) hP hD rfl
  rcases hp_5 with ⟨rfl, hz_6⟩ | ⟨rfl, hz_7⟩
  · have he_8 := hz_6.2
    have hP : va_P D vwCl ([(rf_MO mo mw ma mf m0 m1 mu mv u0 u1 iz (0) mb mn mpt mbg mwr mwk mlf men), (rf_RW ct 0 mw 958 f)] ++ ws_3) H := by rw [he_8] at hP; exact hP
    have hD : va_D A ([(rf_MO mo mw ma mf m0 m1 mu mv u0 u1 iz (0) mb mn mpt mbg mwr mwk mlf men), (rf_RW ct 0 mw 958 f)] ++ ws_3) := by rw [he_8] at hD; exact hD
    refine lv_if_eq (tgt := 11) hx hb dX11_enqueue_6 (by decide) (fun _ => ?_) (fun hc => absurd (by decide) hc)
    refine lv_aload_n hx hb dX11_enqueue_11 rfl (lv_at hl 0 rfl) ?_
    refine lv_iload_n hx hb dX11_enqueue_12 rfl (lv_at hl 1 rfl) ?_
    refine lv_bipush (v := 39) hx hb dX11_enqueue_13 (by decide) ?_
    obtain ⟨hP, hD⟩ := ty_ipPD (E1 := []) (E2 := [(rf_MO mo mw ma mf m0 m1 mu mv u0 u1 iz (0) mb mn mpt mbg mwr mwk mlf men), (rf_RW ct 0 mw 958 f)]) hP hD rfl ty_mva
    refine ty_Ki hP hD hS hA (va_runV (As := [.int p1, .int 39]) (rest := []) ⟨hx, hb, hml, hown, hts⟩ (m_of_39 l D ct S ws_3 ph xx mo mw ma mf m0 m1 mu mv u0 u1 iz mb (0 : Int32) mn mpt mbg mwr mwk mlf men f G cx p1 _ hT hph hy1 hR hz_6.1.1) (cm_V 2 hts kc_X11_of ki_RX11 kl_RX11_209 kv_X11_of kx_X11_of kd_X11_of ⟨Nat.le_of_ble_eq_true rfl, Nat.le_of_ble_eq_true rfl⟩) (ty_preE (ci := 11) (q0 := 0) hP hK hD hS hA hX rfl rfl) rfl rfl hl.1 rfl (lv_room (Nat.le_of_ble_eq_true rfl)) dX11_enqueue_15 ⟨Nat.le_of_ble_eq_true rfl, Nat.le_of_ble_eq_true rfl⟩) (fun r_9 u H locs hw_10 hP hD hS => ?_)
    obtain ⟨ws_11, rfl⟩ : ∃ z, z = u := ⟨_, rfl⟩
    obtain ⟨hT, rfl⟩ := hw_10
    obtain ⟨hP, hD⟩ := ty_shPD (w2 := ([(rf_MO mo mw ma mf m0 m1 mu mv u0 u1 iz (0) mb mn mpt mbg mwr mwk mlf men), (rf_RW ct 0 mw 958 f)] ++ ws_11)) hP hD rfl
    refine lv_iconst (v := 4) hx hb dX11_enqueue_18 (by decide) ?_
    refine lv_icmp_ne (tgt := 25) hx hb dX11_enqueue_19 (by decide) (fun hc_12 => ?_) (fun hc_12 => ?_)
    · refine lv_aload_n hx hb dX11_enqueue_25 rfl (lv_at hl 0 rfl) ?_
      refine lv_iload_n hx hb dX11_enqueue_26 rfl (lv_at hl 1 rfl) ?_
      refine lv_bipush (v := 40) hx hb dX11_enqueue_27 (by decide) ?_
      refine lv_aload_n hx hb dX11_enqueue_29 rfl (lv_at hl 0 rfl) ?_
      refine lv_iload_n hx hb dX11_enqueue_30 rfl (lv_at hl 1 rfl) ?_
      refine lv_bipush (v := 39) hx hb dX11_enqueue_31 (by decide) ?_
      obtain ⟨hP, hD⟩ := ty_ipPD (E1 := []) (E2 := [(rf_MO mo mw ma mf m0 m1 mu mv u0 u1 iz (0) mb mn mpt mbg mwr mwk mlf men), (rf_RW ct 0 mw 958 f)]) hP hD rfl ty_mva
      refine ty_Ki hP hD hS hA (va_runV (As := [.int p1, .int 39]) (rest := [.int 40, .int p1, .ref mo]) ⟨hx, hb, hml, hown, hts⟩ (m_of_39 l D ct S ws_11 ph xx mo mw ma mf m0 m1 mu mv u0 u1 iz mb (0 : Int32) mn mpt mbg mwr mwk mlf men f G cx p1 _ hT hph hy1 hR hz_6.1.1) (cm_V 2 hts kc_X11_of ki_RX11 kl_RX11_209 kv_X11_of kx_X11_of kd_X11_of ⟨Nat.le_of_ble_eq_true rfl, Nat.le_of_ble_eq_true rfl⟩) (ty_preE (ci := 11) (q0 := 0) hP hK hD hS hA hX rfl rfl) rfl rfl hl.1 rfl (lv_room (Nat.le_of_ble_eq_true rfl)) dX11_enqueue_33 ⟨Nat.le_of_ble_eq_true rfl, Nat.le_of_ble_eq_true rfl⟩) (fun r_13 u H locs hw_14 hP hD hS => ?_)
      obtain ⟨ws_15, rfl⟩ : ∃ z, z = u := ⟨_, rfl⟩
      obtain ⟨hT, rfl⟩ := hw_14
      obtain ⟨hP, hD⟩ := ty_shPD (w2 := ([(rf_MO mo mw ma mf m0 m1 mu mv u0 u1 iz (0) mb mn mpt mbg mwr mwk mlf men), (rf_RW ct 0 mw 958 f)] ++ ws_15)) hP hD rfl
      refine lv_iadd hx hb dX11_enqueue_36 ?_
      refine lv_iload_n hx hb dX11_enqueue_37 rfl (lv_at hl 2 rfl) ?_
      obtain ⟨hP, hD⟩ := ty_ipPD (E1 := []) (E2 := [(rf_MO mo mw ma mf m0 m1 mu mv u0 u1 iz (0) mb mn mpt mbg mwr mwk mlf men), (rf_RW ct 0 mw 958 f)]) hP hD rfl ty_mva
      refine ty_Kv hP hD hS hA (va_runV (As := [.int p1, .int (40 + (rf_of f p1 39)), .int p2]) (rest := []) ⟨hx, hb, hml, hown, hts⟩ (m_put_v l D ct S ws_15 ph xx mo mw ma mf m0 m1 mu mv u0 u1 iz mb (0 : Int32) mn mpt mbg mwr mwk mlf men f G cx p1 (40 + (rf_of f p1 39)) p2 _ hT hph hy1 hR hz_6.1.1 (by have := (rf_n4 hc_12 (rf_qk hR hz_6.1.1).1); have := rf_qix (q := rf_of f p1 39) (by omega); omega) (rf_kq (by have := (rf_n4 hc_12 (rf_qk hR hz_6.1.1).1); have := rf_qix (q := rf_of f p1 39) (by omega); omega) (by have := hz_6.1.2; omega))) (cm_V 3 hts kc_X11_put ki_RX11 kl_RX11_234 kv_X11_put kx_X11_put kd_X11_put ⟨Nat.le_of_ble_eq_true rfl, Nat.le_of_ble_eq_true rfl⟩) (ty_preE (ci := 11) (q0 := 0) hP hK hD hS hA hX rfl rfl) rfl rfl hl.1 rfl (lv_room (Nat.le_of_ble_eq_true rfl)) dX11_enqueue_38 ⟨Nat.le_of_ble_eq_true rfl, Nat.le_of_ble_eq_true rfl⟩) (fun u H locs hw_17 hP hD hS => ?_)
      obtain ⟨ws_18, f1_19⟩ := u
      obtain ⟨hT, hp_20⟩ := hw_17
      have hp_20 : rf_d (f 8) f f1_19 ∧ rf_R G cx f1_19 ∧ rf_sm f f1_19 ∧ f1_19 = upd f (244 + 54 * p1.toInt.toNat + (40 + (rf_of f p1 39)).toInt.toNat) p2 := hp_20
      obtain ⟨hd_21, hq_22⟩ := hp_20
      have hD_23 := rf_dt (rf_dr f) hd_21
      have hR_24 := hq_22.1
      have hM_25 := rf_smt (rf_smr f) hq_22.2.1
      obtain ⟨hP, hD⟩ := ty_shPD (w2 := ([(rf_MO mo mw ma mf m0 m1 mu mv u0 u1 iz (0) mb mn mpt mbg mwr mwk mlf men), (rf_RW ct 0 mw 958 f1_19)] ++ ws_18)) hP hD rfl
      refine lv_aload_n hx hb dX11_enqueue_41 rfl (lv_at hl 0 rfl) ?_
      refine lv_iload_n hx hb dX11_enqueue_42 rfl (lv_at hl 1 rfl) ?_
      refine lv_bipush (v := 39) hx hb dX11_enqueue_43 (by decide) ?_
      refine lv_aload_n hx hb dX11_enqueue_45 rfl (lv_at hl 0 rfl) ?_
      refine lv_iload_n hx hb dX11_enqueue_46 rfl (lv_at hl 1 rfl) ?_
      refine lv_bipush (v := 39) hx hb dX11_enqueue_47 (by decide) ?_
      obtain ⟨hP, hD⟩ := ty_ipPD (E1 := []) (E2 := [(rf_MO mo mw ma mf m0 m1 mu mv u0 u1 iz (0) mb mn mpt mbg mwr mwk mlf men), (rf_RW ct 0 mw 958 f1_19)]) hP hD rfl ty_mva
      refine ty_Ki hP hD hS hA (va_runV (As := [.int p1, .int 39]) (rest := [.int 39, .int p1, .ref mo]) ⟨hx, hb, hml, hown, hts⟩ (m_of_39 l D ct S ws_18 ph xx mo mw ma mf m0 m1 mu mv u0 u1 iz mb (0 : Int32) mn mpt mbg mwr mwk mlf men f1_19 G cx p1 _ hT hph hy1 hR_24 hz_6.1.1) (cm_V 2 hts kc_X11_of ki_RX11 kl_RX11_209 kv_X11_of kx_X11_of kd_X11_of ⟨Nat.le_of_ble_eq_true rfl, Nat.le_of_ble_eq_true rfl⟩) (ty_preE (ci := 11) (q0 := 0) hP hK hD hS hA hX rfl rfl) rfl rfl hl.1 rfl (lv_room (Nat.le_of_ble_eq_true rfl)) dX11_enqueue_49 ⟨Nat.le_of_ble_eq_true rfl, Nat.le_of_ble_eq_true rfl⟩) (fun r_26 u H locs hw_27 hP hD hS => ?_)
      obtain ⟨ws_28, rfl⟩ : ∃ z, z = u := ⟨_, rfl⟩
      obtain ⟨hT, rfl⟩ := hw_27
      obtain ⟨hP, hD⟩ := ty_shPD (w2 := ([(rf_MO mo mw ma mf m0 m1 mu mv u0 u1 iz (0) mb mn mpt mbg mwr mwk mlf men), (rf_RW ct 0 mw 958 f1_19)] ++ ws_28)) hP hD rfl
      refine lv_iconst (v := 1) hx hb dX11_enqueue_52 (by decide) ?_
      refine lv_iadd hx hb dX11_enqueue_53 ?_
      obtain ⟨hP, hD⟩ := ty_ipPD (E1 := []) (E2 := [(rf_MO mo mw ma mf m0 m1 mu mv u0 u1 iz (0) mb mn mpt mbg mwr mwk mlf men), (rf_RW ct 0 mw 958 f1_19)]) hP hD rfl ty_mva
      refine ty_Kv hP hD hS hA (va_runV (As := [.int p1, .int 39, .int ((rf_of f1_19 p1 39) + 1)]) (rest := []) ⟨hx, hb, hml, hown, hts⟩ (m_put_39 l D ct S ws_28 ph xx mo mw ma mf m0 m1 mu mv u0 u1 iz mb (0 : Int32) mn mpt mbg mwr mwk mlf men f1_19 G cx p1 ((rf_of f1_19 p1 39) + 1) _ hT hph hy1 hR_24 hz_6.1.1 (rf_k39 (by rw [show rf_of f1_19 p1 39 = rf_of f p1 39 from by rw [hq_22.2.2]; exact rf_ne (by have := (rf_n4 hc_12 (rf_qk hR hz_6.1.1).1); have := rf_qix (q := rf_of f p1 39) (by omega); omega)]; have := (rf_n4 hc_12 (rf_qk hR hz_6.1.1).1); have := rf_inc9 this (by omega) (by omega); omega) (by have := hz_6.1.2; omega))) (cm_V 3 hts kc_X11_put ki_RX11 kl_RX11_234 kv_X11_put kx_X11_put kd_X11_put ⟨Nat.le_of_ble_eq_true rfl, Nat.le_of_ble_eq_true rfl⟩) (ty_preE (ci := 11) (q0 := 0) hP hK hD hS hA hX rfl rfl) rfl rfl hl.1 rfl (lv_room (Nat.le_of_ble_eq_true rfl)) dX11_enqueue_54 ⟨Nat.le_of_ble_eq_true rfl, Nat.le_of_ble_eq_true rfl⟩) (fun u H locs hw_30 hP hD hS => ?_)
      obtain ⟨ws_31, f1_32⟩ := u
      obtain ⟨hT, hp_33⟩ := hw_30
      have hp_33 : rf_d (f1_19 8) f1_19 f1_32 ∧ rf_R G cx f1_32 ∧ rf_sm f1_19 f1_32 ∧ f1_32 = upd f1_19 (244 + 54 * p1.toInt.toNat + 39) ((rf_of f1_19 p1 39) + 1) := hp_33
      obtain ⟨hd_34, hq_35⟩ := hp_33
      have hD_36 := rf_dt hD_23 hd_34
      have hR_37 := hq_35.1
      have hM_38 := rf_smt hM_25 hq_35.2.1
      obtain ⟨hP, hD⟩ := ty_shPD (w2 := ([(rf_MO mo mw ma mf m0 m1 mu mv u0 u1 iz (0) mb mn mpt mbg mwr mwk mlf men), (rf_RW ct 0 mw 958 f1_32)] ++ ws_31)) hP hD rfl
      refine lv_aload_n hx hb dX11_enqueue_57 rfl (lv_at hl 0 rfl) ?_
      refine lv_iload_n hx hb dX11_enqueue_58 rfl (lv_at hl 1 rfl) ?_
      refine lv_bipush (v := 39) hx hb dX11_enqueue_59 (by decide) ?_
      obtain ⟨hP, hD⟩ := ty_ipPD (E1 := []) (E2 := [(rf_MO mo mw ma mf m0 m1 mu mv u0 u1 iz (0) mb mn mpt mbg mwr mwk mlf men), (rf_RW ct 0 mw 958 f1_32)]) hP hD rfl ty_mva
      refine ty_Ki hP hD hS hA (va_runV (As := [.int p1, .int 39]) (rest := []) ⟨hx, hb, hml, hown, hts⟩ (m_of_39 l D ct S ws_31 ph xx mo mw ma mf m0 m1 mu mv u0 u1 iz mb (0 : Int32) mn mpt mbg mwr mwk mlf men f1_32 G cx p1 _ hT hph hy1 hR_37 hz_6.1.1) (cm_V 2 hts kc_X11_of ki_RX11 kl_RX11_209 kv_X11_of kx_X11_of kd_X11_of ⟨Nat.le_of_ble_eq_true rfl, Nat.le_of_ble_eq_true rfl⟩) (ty_preE (ci := 11) (q0 := 0) hP hK hD hS hA hX rfl rfl) rfl rfl hl.1 rfl (lv_room (Nat.le_of_ble_eq_true rfl)) dX11_enqueue_61 ⟨Nat.le_of_ble_eq_true rfl, Nat.le_of_ble_eq_true rfl⟩) (fun r_39 u H locs hw_40 hP hD hS => ?_)
      obtain ⟨ws_41, rfl⟩ : ∃ z, z = u := ⟨_, rfl⟩
      obtain ⟨hT, rfl⟩ := hw_40
      obtain ⟨hP, hD⟩ := ty_shPD (w2 := ([(rf_MO mo mw ma mf m0 m1 mu mv u0 u1 iz (0) mb mn mpt mbg mwr mwk mlf men), (rf_RW ct 0 mw 958 f1_32)] ++ ws_41)) hP hD rfl
      exact W.iret (v := (rf_of f1_32 p1 39)) hx hb hr (fun t ht hW => ⟨⟨(rf_of f1_32 p1 39), (ws_41, (0 : Int32), f1_32), rfl, ⟨hT, ⟨⟨th1_4, trivial, (Or.inl ⟨hz_6, (Or.inl ⟨hc_12, ⟨f1_19, hq_22.2.2, ⟨f1_32, hq_35.2.2, ⟨rfl, rfl, rfl⟩⟩⟩⟩)⟩)⟩, ⟨hD_36, hR_37, hM_38⟩⟩⟩, by rw [ht]; exact hP, by rw [hAe]; exact hD⟩, hS.F ht⟩) hS.2.2 dX11_enqueue_64
    · refine lv_bipush (v := (-2)) hx hb dX11_enqueue_22 (by decide) ?_
      exact W.iret (v := (-2)) hx hb hr (fun t ht hW => ⟨⟨(-2), (ws_11, (0 : Int32), f), rfl, ⟨hT, ⟨⟨th1_4, trivial, (Or.inl ⟨hz_6, (Or.inr ⟨hc_12, ⟨rfl, rfl, rfl⟩⟩)⟩)⟩, ⟨(rf_dr f), hR, (rf_smr f)⟩⟩⟩, by rw [ht]; exact hP, by rw [hAe]; exact hD⟩, hS.F ht⟩) hS.2.2 dX11_enqueue_24
  · have he_42 := hz_7.2
    have hP : va_P D vwCl ([(rf_MO mo mw ma mf m0 m1 mu mv u0 u1 iz (1) mb mn mpt mbg mwr mwk mlf men), (rf_RW ct 0 mw 958 f)] ++ ws_3) H := by rw [he_42] at hP; exact hP
    have hD : va_D A ([(rf_MO mo mw ma mf m0 m1 mu mv u0 u1 iz (1) mb mn mpt mbg mwr mwk mlf men), (rf_RW ct 0 mw 958 f)] ++ ws_3) := by rw [he_42] at hD; exact hD
    refine lv_if_eq (tgt := 11) hx hb dX11_enqueue_6 (by decide) (fun hc => absurd hc (by decide)) (fun _ => ?_)
    refine lv_iconst (v := 0) hx hb dX11_enqueue_9 (by decide) ?_
    exact W.iret (v := 0) hx hb hr (fun t ht hW => ⟨⟨0, (ws_3, (1 : Int32), f), rfl, ⟨hT, ⟨⟨th1_4, trivial, (Or.inr ⟨hz_7, ⟨rfl, rfl, rfl⟩⟩)⟩, ⟨(rf_dr f), hR, (rf_smr f)⟩⟩⟩, by rw [ht]; exact hP, by rw [hAe]; exact hD⟩, hS.F ht⟩) hS.2.2 dX11_enqueue_10
def q_X11_dequeue (f : Nat → Int32) (G : Nat → Int32) (p1 : Int32) (r : Int32) (th1 : Int32) (f1 : Nat → Int32) : Prop := (∃ (th1_4 : Int32), True ∧ ((((0 ≤ p1.toInt ∧ p1.toInt < (G 9).toInt) ∧ th1_4 = 0) ∧ ((¬ (rf_of f p1 39) = (0 : Int32) ∧ (∃ (f1_19 : Nat → Int32), f1_19 = upd f (244 + 54 * p1.toInt.toNat + 39) ((rf_of f p1 39) - 1) ∧ (r = (rf_of f1_19 p1 (40 + (rf_of f1_19 p1 39)).toInt.toNat) ∧ th1 = 0 ∧ f1 = f1_19))) ∨ ((rf_of f p1 39) = (0 : Int32) ∧ (r = (-1) ∧ th1 = 0 ∧ f1 = f)))) ∨ ((¬ (0 ≤ p1.toInt ∧ p1.toInt < (G 9).toInt) ∧ th1_4 = 1) ∧ (r = 0 ∧ th1 = 1 ∧ f1 = f))))
set_option maxRecDepth 100000 in
set_option maxHeartbeats 4000000 in
theorem m_X11_dequeue (l : Launch) (D : va_G) (ct : Nat → ClassId) (S : ty_S) (ws : va_W) (ph : va_W → Prop) (xx : Nat → Nat → Nat → Prop) (mo : Nat) (mw : Nat) (ma : Nat) (mf : Nat) (m0 : Nat) (m1 : Nat) (mu : Nat) (mv : Nat) (u0 : Nat) (u1 : Nat) (iz : Nat) (mb : Nat) (th : Int32) (mn : Int32) (mpt : Int32) (mbg : Int32) (mwr : Int32) (mwk : Int32) (mlf : Int32) (men : Int32) (f : Nat → Int32) (G : Nat → Int32) (cx : Int) (p1 : Int32) (sz : Nat) (hT : ty_V ct S ph ws) (hph : ty_C ph xx) (hy1 : ty_y1 xx) (hR : rf_R G cx f) : Met l yX11_dequeue (ws_ yX11_dequeue cX11_dequeue 2 (some .int)) ({ frames := 2, cells := 0, slots := 0, locals := 46 } : Room) (va_Pc [.ref mo, .int p1] (cmP D ct sz ([(rf_MO mo mw ma mf m0 m1 mu mv u0 u1 iz th mb mn mpt mbg mwr mwk mlf men), (rf_RW ct 0 mw 958 f)] ++ ws))) (va_Qi (fun (r : Int32) (u : va_W × Int32 × (Nat → Int32)) => match u with | (u9, th1, f1) => ty_V ct S ph u9 ∧ (q_X11_dequeue f G p1 r th1 f1) ∧ rf_d (f 8) f f1 ∧ rf_R G cx f1 ∧ rf_sm f f1) (cmB D ([(rf_MO mo mw ma mf m0 m1 mu mv u0 u1 iz th mb mn mpt mbg mwr mwk mlf men), (rf_RW ct 0 mw 958 f)] ++ ws) sz (fun (u : va_W × Int32 × (Nat → Int32)) => match u with | (u9, th1, f1) => ([(rf_MO mo mw ma mf m0 m1 mu mv u0 u1 iz th1 mb mn mpt mbg mwr mwk mlf men), (rf_RW ct 0 mw 958 f1)] ++ u9))) (va_A ([(rf_MO mo mw ma mf m0 m1 mu mv u0 u1 iz th mb mn mpt mbg mwr mwk mlf men), (rf_RW ct 0 mw 958 f)] ++ ws) sz)) 0 0 (va_A ([(rf_MO mo mw ma mf m0 m1 mu mv u0 u1 iz th mb mn mpt mbg mwr mwk mlf men), (rf_RW ct 0 mw 958 f)] ++ ws) sz) := by
  refine Met.ofW (cc := cX11_dequeue) (maxL := 2) (ret := (some .int)) (by decide) rfl ?_
  intro p e s m args below meth c s₁ B hml hv
  obtain ⟨rfl, hsz, hP, hK, hD0, hX⟩ := hv
  have hx := B.exec
  have hb := B.bytes
  have hr := B.returns
  have hts := ws_all (atoms_spec (ws := ws_ yX11_dequeue cX11_dequeue 2 (some .int)) B.pre)
  have hown : s.vm.findClass RX11 = some m.cls := findClass_of_methodNamed B.named
  have hlocks := B.notSynchronized
  subst hsz
  have hD := hD0.self (sz := s.heap.size)
  generalize hAe : va_A ([(rf_MO mo mw ma mf m0 m1 mu mv u0 u1 iz th mb mn mpt mbg mwr mwk mlf men), (rf_RW ct 0 mw 958 f)] ++ ws) s.heap.size = A at hD hX ⊢
  have hA : ∀ q : Nat, s.heap.size ≤ q → A q := fun q h => by rw [← hAe]; exact Or.inr h
  have hS : va_S A s.heap s.heap [] := va_S.rf
  have hl := lv_entry ([.ref mo, .int p1]) (n := 2) (Nat.le_of_ble_eq_true rfl)
  rw [lg_entry_eq]
  generalize (lg_sl ([.ref mo, .int p1]) ++ List.replicate (2 - (lg_sl ([.ref mo, .int p1])).length) Slot.unset).toArray = ls at hl ⊢
  have hl : lv_has ls 2 [(0, .ref mo), (1, .int p1)] := hl
  refine lv_aload_n hx hb dX11_dequeue_0 rfl (lv_at hl 0 rfl) ?_
  refine lv_iload_n hx hb dX11_dequeue_1 rfl (lv_at hl 1 rfl) ?_
  obtain ⟨hP, hD⟩ := ty_ipPD (E1 := []) (E2 := [(rf_MO mo mw ma mf m0 m1 mu mv u0 u1 iz th mb mn mpt mbg mwr mwk mlf men), (rf_RW ct 0 mw 958 f)]) hP hD rfl ty_mva
  refine ty_Ki hP hD hS hA (va_runV (As := [.int p1]) (rest := []) ⟨hx, hb, hml, hown, hts⟩ (m_X11_noChannel l D ct S ws ph xx mo mw ma mf m0 m1 mu mv u0 u1 iz mb th mn mpt mbg mwr mwk mlf men f G cx p1 _ hT hph hy1 hR) (cm_V 1 hts kc_X11_noChannel ki_RX11 kl_RX11_344 kv_X11_noChannel kx_X11_noChannel kd_X11_noChannel ⟨Nat.le_of_ble_eq_true rfl, Nat.le_of_ble_eq_true rfl⟩) (ty_preE (ci := 11) (q0 := 0) hP hK hD hS hA hX rfl rfl) rfl rfl hl.1 rfl (lv_room (Nat.le_of_ble_eq_true rfl)) dX11_dequeue_2 ⟨Nat.le_of_ble_eq_true rfl, Nat.le_of_ble_eq_true rfl⟩) (fun r_1 u H locs hw_2 hP hD hS => ?_)
  obtain ⟨ws_3, th1_4⟩ := u
  obtain ⟨hT, hp_5⟩ := hw_2
  have hp_5 : ((r_1 = 0 ∧ (0 ≤ p1.toInt ∧ p1.toInt < (G 9).toInt) ∧ th1_4 = 0) ∨ (r_1 = 1 ∧ ¬ (0 ≤ p1.toInt ∧ p1.toInt < (G 9).toInt) ∧ th1_4 = 1)) := hp_5
  obtain ⟨hP, hD⟩ := ty_shPD (w2 := ([(rf_MO mo mw ma mf m0 m1 mu mv u0 u1 iz th1_4 mb mn mpt mbg mwr mwk mlf men), (rf_RW ct 0 mw 958 f)] ++ ws_3)) hP hD rfl
  rcases hp_5 with ⟨rfl, hz_6⟩ | ⟨rfl, hz_7⟩
  · have he_8 := hz_6.2
    have hP : va_P D vwCl ([(rf_MO mo mw ma mf m0 m1 mu mv u0 u1 iz (0) mb mn mpt mbg mwr mwk mlf men), (rf_RW ct 0 mw 958 f)] ++ ws_3) H := by rw [he_8] at hP; exact hP
    have hD : va_D A ([(rf_MO mo mw ma mf m0 m1 mu mv u0 u1 iz (0) mb mn mpt mbg mwr mwk mlf men), (rf_RW ct 0 mw 958 f)] ++ ws_3) := by rw [he_8] at hD; exact hD
    refine lv_if_eq (tgt := 10) hx hb dX11_dequeue_5 (by decide) (fun _ => ?_) (fun hc => absurd (by decide) hc)
    refine lv_aload_n hx hb dX11_dequeue_10 rfl (lv_at hl 0 rfl) ?_
    refine lv_iload_n hx hb dX11_dequeue_11 rfl (lv_at hl 1 rfl) ?_
    refine lv_bipush (v := 39) hx hb dX11_dequeue_12 (by decide) ?_
    obtain ⟨hP, hD⟩ := ty_ipPD (E1 := []) (E2 := [(rf_MO mo mw ma mf m0 m1 mu mv u0 u1 iz (0) mb mn mpt mbg mwr mwk mlf men), (rf_RW ct 0 mw 958 f)]) hP hD rfl ty_mva
    refine ty_Ki hP hD hS hA (va_runV (As := [.int p1, .int 39]) (rest := []) ⟨hx, hb, hml, hown, hts⟩ (m_of_39 l D ct S ws_3 ph xx mo mw ma mf m0 m1 mu mv u0 u1 iz mb (0 : Int32) mn mpt mbg mwr mwk mlf men f G cx p1 _ hT hph hy1 hR hz_6.1) (cm_V 2 hts kc_X11_of ki_RX11 kl_RX11_209 kv_X11_of kx_X11_of kd_X11_of ⟨Nat.le_of_ble_eq_true rfl, Nat.le_of_ble_eq_true rfl⟩) (ty_preE (ci := 11) (q0 := 0) hP hK hD hS hA hX rfl rfl) rfl rfl hl.1 rfl (lv_room (Nat.le_of_ble_eq_true rfl)) dX11_dequeue_14 ⟨Nat.le_of_ble_eq_true rfl, Nat.le_of_ble_eq_true rfl⟩) (fun r_9 u H locs hw_10 hP hD hS => ?_)
    obtain ⟨ws_11, rfl⟩ : ∃ z, z = u := ⟨_, rfl⟩
    obtain ⟨hT, rfl⟩ := hw_10
    obtain ⟨hP, hD⟩ := ty_shPD (w2 := ([(rf_MO mo mw ma mf m0 m1 mu mv u0 u1 iz (0) mb mn mpt mbg mwr mwk mlf men), (rf_RW ct 0 mw 958 f)] ++ ws_11)) hP hD rfl
    refine lv_if_ne (tgt := 22) hx hb dX11_dequeue_17 (by decide) (fun hc_12 => ?_) (fun hc_12 => ?_)
    · refine lv_aload_n hx hb dX11_dequeue_22 rfl (lv_at hl 0 rfl) ?_
      refine lv_iload_n hx hb dX11_dequeue_23 rfl (lv_at hl 1 rfl) ?_
      refine lv_bipush (v := 39) hx hb dX11_dequeue_24 (by decide) ?_
      refine lv_aload_n hx hb dX11_dequeue_26 rfl (lv_at hl 0 rfl) ?_
      refine lv_iload_n hx hb dX11_dequeue_27 rfl (lv_at hl 1 rfl) ?_
      refine lv_bipush (v := 39) hx hb dX11_dequeue_28 (by decide) ?_
      obtain ⟨hP, hD⟩ := ty_ipPD (E1 := []) (E2 := [(rf_MO mo mw ma mf m0 m1 mu mv u0 u1 iz (0) mb mn mpt mbg mwr mwk mlf men), (rf_RW ct 0 mw 958 f)]) hP hD rfl ty_mva
      refine ty_Ki hP hD hS hA (va_runV (As := [.int p1, .int 39]) (rest := [.int 39, .int p1, .ref mo]) ⟨hx, hb, hml, hown, hts⟩ (m_of_39 l D ct S ws_11 ph xx mo mw ma mf m0 m1 mu mv u0 u1 iz mb (0 : Int32) mn mpt mbg mwr mwk mlf men f G cx p1 _ hT hph hy1 hR hz_6.1) (cm_V 2 hts kc_X11_of ki_RX11 kl_RX11_209 kv_X11_of kx_X11_of kd_X11_of ⟨Nat.le_of_ble_eq_true rfl, Nat.le_of_ble_eq_true rfl⟩) (ty_preE (ci := 11) (q0 := 0) hP hK hD hS hA hX rfl rfl) rfl rfl hl.1 rfl (lv_room (Nat.le_of_ble_eq_true rfl)) dX11_dequeue_30 ⟨Nat.le_of_ble_eq_true rfl, Nat.le_of_ble_eq_true rfl⟩) (fun r_13 u H locs hw_14 hP hD hS => ?_)
      obtain ⟨ws_15, rfl⟩ : ∃ z, z = u := ⟨_, rfl⟩
      obtain ⟨hT, rfl⟩ := hw_14
      obtain ⟨hP, hD⟩ := ty_shPD (w2 := ([(rf_MO mo mw ma mf m0 m1 mu mv u0 u1 iz (0) mb mn mpt mbg mwr mwk mlf men), (rf_RW ct 0 mw 958 f)] ++ ws_15)) hP hD rfl
      refine lv_iconst (v := 1) hx hb dX11_dequeue_33 (by decide) ?_
      refine lv_isub hx hb dX11_dequeue_34 ?_
      obtain ⟨hP, hD⟩ := ty_ipPD (E1 := []) (E2 := [(rf_MO mo mw ma mf m0 m1 mu mv u0 u1 iz (0) mb mn mpt mbg mwr mwk mlf men), (rf_RW ct 0 mw 958 f)]) hP hD rfl ty_mva
      refine ty_Kv hP hD hS hA (va_runV (As := [.int p1, .int 39, .int ((rf_of f p1 39) - 1)]) (rest := []) ⟨hx, hb, hml, hown, hts⟩ (m_put_39 l D ct S ws_15 ph xx mo mw ma mf m0 m1 mu mv u0 u1 iz mb (0 : Int32) mn mpt mbg mwr mwk mlf men f G cx p1 ((rf_of f p1 39) - 1) _ hT hph hy1 hR hz_6.1 (rf_q39 hR hz_6.1 (rf_n0 hc_12 (rf_qk hR hz_6.1).1.1))) (cm_V 3 hts kc_X11_put ki_RX11 kl_RX11_234 kv_X11_put kx_X11_put kd_X11_put ⟨Nat.le_of_ble_eq_true rfl, Nat.le_of_ble_eq_true rfl⟩) (ty_preE (ci := 11) (q0 := 0) hP hK hD hS hA hX rfl rfl) rfl rfl hl.1 rfl (lv_room (Nat.le_of_ble_eq_true rfl)) dX11_dequeue_35 ⟨Nat.le_of_ble_eq_true rfl, Nat.le_of_ble_eq_true rfl⟩) (fun u H locs hw_17 hP hD hS => ?_)
      obtain ⟨ws_18, f1_19⟩ := u
      obtain ⟨hT, hp_20⟩ := hw_17
      have hp_20 : rf_d (f 8) f f1_19 ∧ rf_R G cx f1_19 ∧ rf_sm f f1_19 ∧ f1_19 = upd f (244 + 54 * p1.toInt.toNat + 39) ((rf_of f p1 39) - 1) := hp_20
      obtain ⟨hd_21, hq_22⟩ := hp_20
      have hD_23 := rf_dt (rf_dr f) hd_21
      have hR_24 := hq_22.1
      have hM_25 := rf_smt (rf_smr f) hq_22.2.1
      obtain ⟨hP, hD⟩ := ty_shPD (w2 := ([(rf_MO mo mw ma mf m0 m1 mu mv u0 u1 iz (0) mb mn mpt mbg mwr mwk mlf men), (rf_RW ct 0 mw 958 f1_19)] ++ ws_18)) hP hD rfl
      refine lv_aload_n hx hb dX11_dequeue_38 rfl (lv_at hl 0 rfl) ?_
      refine lv_iload_n hx hb dX11_dequeue_39 rfl (lv_at hl 1 rfl) ?_
      refine lv_bipush (v := 40) hx hb dX11_dequeue_40 (by decide) ?_
      refine lv_aload_n hx hb dX11_dequeue_42 rfl (lv_at hl 0 rfl) ?_
      refine lv_iload_n hx hb dX11_dequeue_43 rfl (lv_at hl 1 rfl) ?_
      refine lv_bipush (v := 39) hx hb dX11_dequeue_44 (by decide) ?_
      obtain ⟨hP, hD⟩ := ty_ipPD (E1 := []) (E2 := [(rf_MO mo mw ma mf m0 m1 mu mv u0 u1 iz (0) mb mn mpt mbg mwr mwk mlf men), (rf_RW ct 0 mw 958 f1_19)]) hP hD rfl ty_mva
      refine ty_Ki hP hD hS hA (va_runV (As := [.int p1, .int 39]) (rest := [.int 40, .int p1, .ref mo]) ⟨hx, hb, hml, hown, hts⟩ (m_of_39 l D ct S ws_18 ph xx mo mw ma mf m0 m1 mu mv u0 u1 iz mb (0 : Int32) mn mpt mbg mwr mwk mlf men f1_19 G cx p1 _ hT hph hy1 hR_24 hz_6.1) (cm_V 2 hts kc_X11_of ki_RX11 kl_RX11_209 kv_X11_of kx_X11_of kd_X11_of ⟨Nat.le_of_ble_eq_true rfl, Nat.le_of_ble_eq_true rfl⟩) (ty_preE (ci := 11) (q0 := 0) hP hK hD hS hA hX rfl rfl) rfl rfl hl.1 rfl (lv_room (Nat.le_of_ble_eq_true rfl)) dX11_dequeue_46 ⟨Nat.le_of_ble_eq_true rfl, Nat.le_of_ble_eq_true rfl⟩) (fun r_26 u H locs hw_27 hP hD hS => ?_)
      obtain ⟨ws_28, rfl⟩ : ∃ z, z = u := ⟨_, rfl⟩
      obtain ⟨hT, rfl⟩ := hw_27
      obtain ⟨hP, hD⟩ := ty_shPD (w2 := ([(rf_MO mo mw ma mf m0 m1 mu mv u0 u1 iz (0) mb mn mpt mbg mwr mwk mlf men), (rf_RW ct 0 mw 958 f1_19)] ++ ws_28)) hP hD rfl
      refine lv_iadd hx hb dX11_dequeue_49 ?_
      obtain ⟨hP, hD⟩ := ty_ipPD (E1 := []) (E2 := [(rf_MO mo mw ma mf m0 m1 mu mv u0 u1 iz (0) mb mn mpt mbg mwr mwk mlf men), (rf_RW ct 0 mw 958 f1_19)]) hP hD rfl ty_mva
      refine ty_Ki hP hD hS hA (va_runV (As := [.int p1, .int (40 + (rf_of f1_19 p1 39))]) (rest := []) ⟨hx, hb, hml, hown, hts⟩ (m_of_v l D ct S ws_28 ph xx mo mw ma mf m0 m1 mu mv u0 u1 iz mb (0 : Int32) mn mpt mbg mwr mwk mlf men f1_19 G cx p1 (40 + (rf_of f1_19 p1 39)) _ hT hph hy1 hR_24 hz_6.1 (by have := (rf_qk hR_24 hz_6.1); have := rf_qix (q := rf_of f1_19 p1 39) (by omega); omega)) (cm_V 2 hts kc_X11_of ki_RX11 kl_RX11_209 kv_X11_of kx_X11_of kd_X11_of ⟨Nat.le_of_ble_eq_true rfl, Nat.le_of_ble_eq_true rfl⟩) (ty_preE (ci := 11) (q0 := 0) hP hK hD hS hA hX rfl rfl) rfl rfl hl.1 rfl (lv_room (Nat.le_of_ble_eq_true rfl)) dX11_dequeue_50 ⟨Nat.le_of_ble_eq_true rfl, Nat.le_of_ble_eq_true rfl⟩) (fun r_29 u H locs hw_30 hP hD hS => ?_)
      obtain ⟨ws_31, rfl⟩ : ∃ z, z = u := ⟨_, rfl⟩
      obtain ⟨hT, rfl⟩ := hw_30
      obtain ⟨hP, hD⟩ := ty_shPD (w2 := ([(rf_MO mo mw ma mf m0 m1 mu mv u0 u1 iz (0) mb mn mpt mbg mwr mwk mlf men), (rf_RW ct 0 mw 958 f1_19)] ++ ws_31)) hP hD rfl
      exact W.iret (v := (rf_of f1_19 p1 (40 + (rf_of f1_19 p1 39)).toInt.toNat)) hx hb hr (fun t ht hW => ⟨⟨(rf_of f1_19 p1 (40 + (rf_of f1_19 p1 39)).toInt.toNat), (ws_31, (0 : Int32), f1_19), rfl, ⟨hT, ⟨⟨th1_4, trivial, (Or.inl ⟨hz_6, (Or.inl ⟨hc_12, ⟨f1_19, hq_22.2.2, ⟨rfl, rfl, rfl⟩⟩⟩)⟩)⟩, ⟨hD_23, hR_24, hM_25⟩⟩⟩, by rw [ht]; exact hP, by rw [hAe]; exact hD⟩, hS.F ht⟩) hS.2.2 dX11_dequeue_53
    · refine lv_iconst (v := (-1)) hx hb dX11_dequeue_20 (by decide) ?_
      exact W.iret (v := (-1)) hx hb hr (fun t ht hW => ⟨⟨(-1), (ws_11, (0 : Int32), f), rfl, ⟨hT, ⟨⟨th1_4, trivial, (Or.inl ⟨hz_6, (Or.inr ⟨hc_12, ⟨rfl, rfl, rfl⟩⟩)⟩)⟩, ⟨(rf_dr f), hR, (rf_smr f)⟩⟩⟩, by rw [ht]; exact hP, by rw [hAe]; exact hD⟩, hS.F ht⟩) hS.2.2 dX11_dequeue_21
  · have he_32 := hz_7.2
    have hP : va_P D vwCl ([(rf_MO mo mw ma mf m0 m1 mu mv u0 u1 iz (1) mb mn mpt mbg mwr mwk mlf men), (rf_RW ct 0 mw 958 f)] ++ ws_3) H := by rw [he_32] at hP; exact hP
    have hD : va_D A ([(rf_MO mo mw ma mf m0 m1 mu mv u0 u1 iz (1) mb mn mpt mbg mwr mwk mlf men), (rf_RW ct 0 mw 958 f)] ++ ws_3) := by rw [he_32] at hD; exact hD
    refine lv_if_eq (tgt := 10) hx hb dX11_dequeue_5 (by decide) (fun hc => absurd hc (by decide)) (fun _ => ?_)
    refine lv_iconst (v := 0) hx hb dX11_dequeue_8 (by decide) ?_
    exact W.iret (v := 0) hx hb hr (fun t ht hW => ⟨⟨0, (ws_3, (1 : Int32), f), rfl, ⟨hT, ⟨⟨th1_4, trivial, (Or.inr ⟨hz_7, ⟨rfl, rfl, rfl⟩⟩)⟩, ⟨(rf_dr f), hR, (rf_smr f)⟩⟩⟩, by rw [ht]; exact hP, by rw [hAe]; exact hD⟩, hS.F ht⟩) hS.2.2 dX11_dequeue_9
def q_X11_startNext (f : Nat → Int32) (G : Nat → Int32) (su : Nat → Int64) (p1 : Int32) (r : Int32) (th1 : Int32) (f1 : Nat → Int32) (su1 : Nat → Int64) : Prop := (∃ (th1_4 : Int32), True ∧ ((((0 ≤ p1.toInt ∧ p1.toInt < (G 9).toInt) ∧ th1_4 = 0) ∧ ((¬ rf_of f p1 0 = (0 : Int32) ∧ ((¬ rf_of f p1 0 = (3 : Int32) ∧ (r = (-3) ∧ th1 = 0 ∧ f1 = f ∧ su1 = su)) ∨ (rf_of f p1 0 = (3 : Int32) ∧ ((¬ (rf_of f p1 39) = (0 : Int32) ∧ (∃ (r_25 : Int32) (f1_28 : Nat → Int32), (q_X11_leavesQueue f p1 r_25 f1_28) ∧ (∃ (f1_40 : Nat → Int32) (su1_41 : Nat → Int64), (q_X11_startsOn f1_28 su p1 r_25 f1_40 su1_41) ∧ (r = r_25 ∧ th1 = 0 ∧ f1 = f1_40 ∧ su1 = su1_41)))) ∨ ((rf_of f p1 39) = (0 : Int32) ∧ (r = (-1) ∧ th1 = 0 ∧ f1 = f ∧ su1 = su)))))) ∨ (rf_of f p1 0 = (0 : Int32) ∧ ((¬ (rf_of f p1 39) = (0 : Int32) ∧ (∃ (r_54 : Int32) (f1_57 : Nat → Int32), (q_X11_leavesQueue f p1 r_54 f1_57) ∧ (∃ (f1_69 : Nat → Int32) (su1_70 : Nat → Int64), (q_X11_startsOn f1_57 su p1 r_54 f1_69 su1_70) ∧ (r = r_54 ∧ th1 = 0 ∧ f1 = f1_69 ∧ su1 = su1_70)))) ∨ ((rf_of f p1 39) = (0 : Int32) ∧ (r = (-1) ∧ th1 = 0 ∧ f1 = f ∧ su1 = su)))))) ∨ ((¬ (0 ≤ p1.toInt ∧ p1.toInt < (G 9).toInt) ∧ th1_4 = 1) ∧ (r = 0 ∧ th1 = 1 ∧ f1 = f ∧ su1 = su))))
set_option maxRecDepth 100000 in
set_option maxHeartbeats 4000000 in
theorem m_X11_startNext (l : Launch) (D : va_G) (ct : Nat → ClassId) (S : ty_S) (ws : va_W) (ph : va_W → Prop) (xx : Nat → Nat → Nat → Prop) (mo : Nat) (mw : Nat) (ma : Nat) (mf : Nat) (m0 : Nat) (m1 : Nat) (mu : Nat) (mv : Nat) (u0 : Nat) (u1 : Nat) (iz : Nat) (mb : Nat) (th : Int32) (mn : Int32) (mpt : Int32) (mbg : Int32) (mwr : Int32) (mwk : Int32) (mlf : Int32) (men : Int32) (f : Nat → Int32) (G : Nat → Int32) (su : Nat → Int64) (p1 : Int32) (sz : Nat) (hT : ty_V ct S ph ws) (hph : ty_C ph xx) (hy1 : ty_y1 xx) (hy11 : ty_y0 xx 11) (hR : rf_R G (-1) f) : Met l yX11_startNext (ws_ yX11_startNext cX11_startNext 3 (some .int)) ({ frames := 3, cells := 0, slots := 0, locals := 72 } : Room) (va_Pc [.ref mo, .int p1] (cmP D ct sz ([(rf_MO mo mw ma mf m0 m1 mu mv u0 u1 iz th mb mn mpt mbg mwr mwk mlf men), (rf_RW ct 0 mw 958 f), (mu, .inl (ct 1, 42, .inr (.inl su)))] ++ ws))) (va_Qi (fun (r : Int32) (u : va_W × Int32 × (Nat → Int32) × (Nat → Int64)) => match u with | (u9, th1, f1, su1) => ty_V ct S ph u9 ∧ (q_X11_startNext f G su p1 r th1 f1 su1) ∧ rf_d (f 8) f f1 ∧ rf_R G (-1) f1) (cmB D ([(rf_MO mo mw ma mf m0 m1 mu mv u0 u1 iz th mb mn mpt mbg mwr mwk mlf men), (rf_RW ct 0 mw 958 f), (mu, .inl (ct 1, 42, .inr (.inl su)))] ++ ws) sz (fun (u : va_W × Int32 × (Nat → Int32) × (Nat → Int64)) => match u with | (u9, th1, f1, su1) => ([(rf_MO mo mw ma mf m0 m1 mu mv u0 u1 iz th1 mb mn mpt mbg mwr mwk mlf men), (rf_RW ct 0 mw 958 f1), (mu, .inl (ct 1, 42, .inr (.inl su1)))] ++ u9))) (va_A ([(rf_MO mo mw ma mf m0 m1 mu mv u0 u1 iz th mb mn mpt mbg mwr mwk mlf men), (rf_RW ct 0 mw 958 f), (mu, .inl (ct 1, 42, .inr (.inl su)))] ++ ws) sz)) 0 0 (va_A ([(rf_MO mo mw ma mf m0 m1 mu mv u0 u1 iz th mb mn mpt mbg mwr mwk mlf men), (rf_RW ct 0 mw 958 f), (mu, .inl (ct 1, 42, .inr (.inl su)))] ++ ws) sz) := by
  refine Met.ofW (cc := cX11_startNext) (maxL := 3) (ret := (some .int)) (by decide) rfl ?_
  intro p e s m args below meth c s₁ B hml hv
  obtain ⟨rfl, hsz, hP, hK, hD0, hX⟩ := hv
  have hx := B.exec
  have hb := B.bytes
  have hr := B.returns
  have hts := ws_all (atoms_spec (ws := ws_ yX11_startNext cX11_startNext 3 (some .int)) B.pre)
  have hown : s.vm.findClass RX11 = some m.cls := findClass_of_methodNamed B.named
  have hlocks := B.notSynchronized
  subst hsz
  have hD := hD0.self (sz := s.heap.size)
  generalize hAe : va_A ([(rf_MO mo mw ma mf m0 m1 mu mv u0 u1 iz th mb mn mpt mbg mwr mwk mlf men), (rf_RW ct 0 mw 958 f), (mu, .inl (ct 1, 42, .inr (.inl su)))] ++ ws) s.heap.size = A at hD hX ⊢
  have hA : ∀ q : Nat, s.heap.size ≤ q → A q := fun q h => by rw [← hAe]; exact Or.inr h
  have hS : va_S A s.heap s.heap [] := va_S.rf
  have hl := lv_entry ([.ref mo, .int p1]) (n := 3) (Nat.le_of_ble_eq_true rfl)
  rw [lg_entry_eq]
  generalize (lg_sl ([.ref mo, .int p1]) ++ List.replicate (3 - (lg_sl ([.ref mo, .int p1])).length) Slot.unset).toArray = ls at hl ⊢
  have hl : lv_has ls 3 [(0, .ref mo), (1, .int p1)] := hl
  refine lv_aload_n hx hb dX11_startNext_0 rfl (lv_at hl 0 rfl) ?_
  refine lv_iload_n hx hb dX11_startNext_1 rfl (lv_at hl 1 rfl) ?_
  obtain ⟨hP, hD⟩ := ty_opPD (E1 := [(mu, .inl (ct 1, 42, .inr (.inl su)))]) (E2 := [(rf_MO mo mw ma mf m0 m1 mu mv u0 u1 iz th mb mn mpt mbg mwr mwk mlf men), (rf_RW ct 0 mw 958 f)]) (n := 3) [2, 0, 1] hP hD rfl rfl (by decide +kernel) ty_mva
  refine ty_Ki hP hD hS hA (va_runV (As := [.int p1]) (rest := []) ⟨hx, hb, hml, hown, hts⟩ (m_X11_noChannel l D ct S ws ph xx mo mw ma mf m0 m1 mu mv u0 u1 iz mb th mn mpt mbg mwr mwk mlf men f G (-1) p1 _ hT hph hy1 hR) (cm_V 1 hts kc_X11_noChannel ki_RX11 kl_RX11_344 kv_X11_noChannel kx_X11_noChannel kd_X11_noChannel ⟨Nat.le_of_ble_eq_true rfl, Nat.le_of_ble_eq_true rfl⟩) (ty_preE (ci := 11) (q0 := 1) hP hK hD hS hA hX rfl rfl) rfl rfl hl.1 rfl (lv_room (Nat.le_of_ble_eq_true rfl)) dX11_startNext_2 ⟨Nat.le_of_ble_eq_true rfl, Nat.le_of_ble_eq_true rfl⟩) (fun r_1 u H locs hw_2 hP hD hS => ?_)
  obtain ⟨ws_3, th1_4⟩ := u
  obtain ⟨hT, hp_5⟩ := hw_2
  have hp_5 : ((r_1 = 0 ∧ (0 ≤ p1.toInt ∧ p1.toInt < (G 9).toInt) ∧ th1_4 = 0) ∨ (r_1 = 1 ∧ ¬ (0 ≤ p1.toInt ∧ p1.toInt < (G 9).toInt) ∧ th1_4 = 1)) := hp_5
  obtain ⟨hP, hD⟩ := ty_shPD (w2 := ([(mu, .inl (ct 1, 42, .inr (.inl su))), (rf_MO mo mw ma mf m0 m1 mu mv u0 u1 iz th1_4 mb mn mpt mbg mwr mwk mlf men), (rf_RW ct 0 mw 958 f)] ++ ws_3)) hP hD rfl
  rcases hp_5 with ⟨rfl, hz_6⟩ | ⟨rfl, hz_7⟩
  · have he_8 := hz_6.2
    have hP : va_P D vwCl ([(mu, .inl (ct 1, 42, .inr (.inl su))), (rf_MO mo mw ma mf m0 m1 mu mv u0 u1 iz (0) mb mn mpt mbg mwr mwk mlf men), (rf_RW ct 0 mw 958 f)] ++ ws_3) H := by rw [he_8] at hP; exact hP
    have hD : va_D A ([(mu, .inl (ct 1, 42, .inr (.inl su))), (rf_MO mo mw ma mf m0 m1 mu mv u0 u1 iz (0) mb mn mpt mbg mwr mwk mlf men), (rf_RW ct 0 mw 958 f)] ++ ws_3) := by rw [he_8] at hD; exact hD
    refine lv_if_eq (tgt := 10) hx hb dX11_startNext_5 (by decide) (fun _ => ?_) (fun hc => absurd (by decide) hc)
    refine lv_aload_n hx hb dX11_startNext_10 rfl (lv_at hl 0 rfl) ?_
    refine lv_iload_n hx hb dX11_startNext_11 rfl (lv_at hl 1 rfl) ?_
    refine lv_iconst (v := 0) hx hb dX11_startNext_12 (by decide) ?_
    obtain ⟨hP, hD⟩ := ty_ipPD (E1 := [(mu, .inl (ct 1, 42, .inr (.inl su)))]) (E2 := [(rf_MO mo mw ma mf m0 m1 mu mv u0 u1 iz (0) mb mn mpt mbg mwr mwk mlf men), (rf_RW ct 0 mw 958 f)]) hP hD rfl ty_mva
    refine ty_Ki hP hD hS hA (va_runV (As := [.int p1, .int 0]) (rest := []) ⟨hx, hb, hml, hown, hts⟩ (m_X11_isIn l D ct S ws_3 ph xx mo mw ma mf m0 m1 mu mv u0 u1 iz mb (0 : Int32) mn mpt mbg mwr mwk mlf men f G (-1) p1 (0 : Int32) _ hT hph hy1 hR hz_6.1) (cm_V 2 hts kc_X11_isIn ki_RX11 kl_RX11_350 kv_X11_isIn kx_X11_isIn kd_X11_isIn ⟨Nat.le_of_ble_eq_true rfl, Nat.le_of_ble_eq_true rfl⟩) (ty_preE (ci := 11) (q0 := 1) hP hK hD hS hA hX rfl rfl) rfl rfl hl.1 rfl (lv_room (Nat.le_of_ble_eq_true rfl)) dX11_startNext_13 ⟨Nat.le_of_ble_eq_true rfl, Nat.le_of_ble_eq_true rfl⟩) (fun r_9 u H locs hw_10 hP hD hS => ?_)
    obtain ⟨ws_11, rfl⟩ : ∃ z, z = u := ⟨_, rfl⟩
    obtain ⟨hT, hp_12⟩ := hw_10
    have hp_12 : ((r_9 = 0 ∧ ¬ rf_of f p1 0 = (0 : Int32)) ∨ (r_9 = 1 ∧ rf_of f p1 0 = (0 : Int32))) := hp_12
    obtain ⟨hP, hD⟩ := ty_shPD (w2 := ([(mu, .inl (ct 1, 42, .inr (.inl su))), (rf_MO mo mw ma mf m0 m1 mu mv u0 u1 iz (0) mb mn mpt mbg mwr mwk mlf men), (rf_RW ct 0 mw 958 f)] ++ ws_11)) hP hD rfl
    rcases hp_12 with ⟨rfl, hz_13⟩ | ⟨rfl, hz_14⟩
    · refine lv_if_ne (tgt := 31) hx hb dX11_startNext_16 (by decide) (fun hc => absurd (by decide) hc) (fun _ => ?_)
      refine lv_aload_n hx hb dX11_startNext_19 rfl (lv_at hl 0 rfl) ?_
      refine lv_iload_n hx hb dX11_startNext_20 rfl (lv_at hl 1 rfl) ?_
      refine lv_iconst (v := 3) hx hb dX11_startNext_21 (by decide) ?_
      obtain ⟨hP, hD⟩ := ty_ipPD (E1 := [(mu, .inl (ct 1, 42, .inr (.inl su)))]) (E2 := [(rf_MO mo mw ma mf m0 m1 mu mv u0 u1 iz (0) mb mn mpt mbg mwr mwk mlf men), (rf_RW ct 0 mw 958 f)]) hP hD rfl ty_mva
      refine ty_Ki hP hD hS hA (va_runV (As := [.int p1, .int 3]) (rest := []) ⟨hx, hb, hml, hown, hts⟩ (m_X11_isIn l D ct S ws_11 ph xx mo mw ma mf m0 m1 mu mv u0 u1 iz mb (0 : Int32) mn mpt mbg mwr mwk mlf men f G (-1) p1 (3 : Int32) _ hT hph hy1 hR hz_6.1) (cm_V 2 hts kc_X11_isIn ki_RX11 kl_RX11_350 kv_X11_isIn kx_X11_isIn kd_X11_isIn ⟨Nat.le_of_ble_eq_true rfl, Nat.le_of_ble_eq_true rfl⟩) (ty_preE (ci := 11) (q0 := 1) hP hK hD hS hA hX rfl rfl) rfl rfl hl.1 rfl (lv_room (Nat.le_of_ble_eq_true rfl)) dX11_startNext_22 ⟨Nat.le_of_ble_eq_true rfl, Nat.le_of_ble_eq_true rfl⟩) (fun r_15 u H locs hw_16 hP hD hS => ?_)
      obtain ⟨ws_17, rfl⟩ : ∃ z, z = u := ⟨_, rfl⟩
      obtain ⟨hT, hp_18⟩ := hw_16
      have hp_18 : ((r_15 = 0 ∧ ¬ rf_of f p1 0 = (3 : Int32)) ∨ (r_15 = 1 ∧ rf_of f p1 0 = (3 : Int32))) := hp_18
      obtain ⟨hP, hD⟩ := ty_shPD (w2 := ([(mu, .inl (ct 1, 42, .inr (.inl su))), (rf_MO mo mw ma mf m0 m1 mu mv u0 u1 iz (0) mb mn mpt mbg mwr mwk mlf men), (rf_RW ct 0 mw 958 f)] ++ ws_17)) hP hD rfl
      rcases hp_18 with ⟨rfl, hz_19⟩ | ⟨rfl, hz_20⟩
      · refine lv_if_ne (tgt := 31) hx hb dX11_startNext_25 (by decide) (fun hc => absurd (by decide) hc) (fun _ => ?_)
        refine lv_bipush (v := (-3)) hx hb dX11_startNext_28 (by decide) ?_
        obtain ⟨hP, hD⟩ := ty_ordPD (E2 := [(rf_MO mo mw ma mf m0 m1 mu mv u0 u1 iz (0) mb mn mpt mbg mwr mwk mlf men), (rf_RW ct 0 mw 958 f), (mu, .inl (ct 1, 42, .inr (.inl su)))]) (n := 3) [1, 2, 0] hP hD rfl rfl (by decide +kernel)
        exact W.iret (v := (-3)) hx hb hr (fun t ht hW => ⟨⟨(-3), (ws_17, (0 : Int32), f, su), rfl, ⟨hT, ⟨⟨th1_4, trivial, (Or.inl ⟨hz_6, (Or.inl ⟨hz_13, (Or.inl ⟨hz_19, ⟨rfl, rfl, rfl, rfl⟩⟩)⟩)⟩)⟩, ⟨(rf_dr f), hR⟩⟩⟩, by rw [ht]; exact hP, by rw [hAe]; exact hD⟩, hS.F ht⟩) hS.2.2 dX11_startNext_30
      · refine lv_if_ne (tgt := 31) hx hb dX11_startNext_25 (by decide) (fun _ => ?_) (fun hc => absurd hc (by decide))
        refine lv_aload_n hx hb dX11_startNext_31 rfl (lv_at hl 0 rfl) ?_
        refine lv_iload_n hx hb dX11_startNext_32 rfl (lv_at hl 1 rfl) ?_
        refine lv_bipush (v := 39) hx hb dX11_startNext_33 (by decide) ?_
        obtain ⟨hP, hD⟩ := ty_ipPD (E1 := [(mu, .inl (ct 1, 42, .inr (.inl su)))]) (E2 := [(rf_MO mo mw ma mf m0 m1 mu mv u0 u1 iz (0) mb mn mpt mbg mwr mwk mlf men), (rf_RW ct 0 mw 958 f)]) hP hD rfl ty_mva
        refine ty_Ki hP hD hS hA (va_runV (As := [.int p1, .int 39]) (rest := []) ⟨hx, hb, hml, hown, hts⟩ (m_of_39 l D ct S ws_17 ph xx mo mw ma mf m0 m1 mu mv u0 u1 iz mb (0 : Int32) mn mpt mbg mwr mwk mlf men f G (-1) p1 _ hT hph hy1 hR hz_6.1) (cm_V 2 hts kc_X11_of ki_RX11 kl_RX11_209 kv_X11_of kx_X11_of kd_X11_of ⟨Nat.le_of_ble_eq_true rfl, Nat.le_of_ble_eq_true rfl⟩) (ty_preE (ci := 11) (q0 := 1) hP hK hD hS hA hX rfl rfl) rfl rfl hl.1 rfl (lv_room (Nat.le_of_ble_eq_true rfl)) dX11_startNext_35 ⟨Nat.le_of_ble_eq_true rfl, Nat.le_of_ble_eq_true rfl⟩) (fun r_21 u H locs hw_22 hP hD hS => ?_)
        obtain ⟨ws_23, rfl⟩ : ∃ z, z = u := ⟨_, rfl⟩
        obtain ⟨hT, rfl⟩ := hw_22
        obtain ⟨hP, hD⟩ := ty_shPD (w2 := ([(mu, .inl (ct 1, 42, .inr (.inl su))), (rf_MO mo mw ma mf m0 m1 mu mv u0 u1 iz (0) mb mn mpt mbg mwr mwk mlf men), (rf_RW ct 0 mw 958 f)] ++ ws_23)) hP hD rfl
        refine lv_if_ne (tgt := 43) hx hb dX11_startNext_38 (by decide) (fun hc_24 => ?_) (fun hc_24 => ?_)
        · refine lv_aload_n hx hb dX11_startNext_43 rfl (lv_at hl 0 rfl) ?_
          refine lv_iload_n hx hb dX11_startNext_44 rfl (lv_at hl 1 rfl) ?_
          obtain ⟨hP, hD⟩ := ty_ipPD (E1 := [(mu, .inl (ct 1, 42, .inr (.inl su)))]) (E2 := [(rf_MO mo mw ma mf m0 m1 mu mv u0 u1 iz (0) mb mn mpt mbg mwr mwk mlf men), (rf_RW ct 0 mw 958 f)]) hP hD rfl ty_mva
          refine ty_Ki hP hD hS hA (va_runV (As := [.int p1]) (rest := []) ⟨hx, hb, hml, hown, hts⟩ (m_X11_leavesQueue l D ct S ws_23 ph xx mo mw ma mf m0 m1 mu mv u0 u1 iz mb (0 : Int32) mn mpt mbg mwr mwk mlf men f G (-1) p1 _ hT hph hy1 hR hz_6.1 (rf_n0 hc_24 (rf_qk hR hz_6.1).1.1)) (cm_V 1 hts kc_X11_leavesQueue ki_RX11 kl_RX11_285 kv_X11_leavesQueue kx_X11_leavesQueue kd_X11_leavesQueue ⟨Nat.le_of_ble_eq_true rfl, Nat.le_of_ble_eq_true rfl⟩) (ty_preE (ci := 11) (q0 := 1) hP hK hD hS hA hX rfl rfl) rfl rfl hl.1 rfl (lv_room (Nat.le_of_ble_eq_true rfl)) dX11_startNext_45 ⟨Nat.le_of_ble_eq_true rfl, Nat.le_of_ble_eq_true rfl⟩) (fun r_25 u H locs hw_26 hP hD hS => ?_)
          obtain ⟨ws_27, f1_28⟩ := u
          obtain ⟨hT, hp_29⟩ := hw_26
          have hp_29 : (q_X11_leavesQueue f p1 r_25 f1_28) ∧ rf_d (f 8) f f1_28 ∧ rf_R G (-1) f1_28 ∧ rf_sm f f1_28 ∧ 0 ≤ r_25.toInt ∧ r_25.toInt < (G 10).toInt := hp_29
          obtain ⟨hq_30, hp_31⟩ := hp_29
          obtain ⟨hd_32, hq_33⟩ := hp_31
          have hD_34 := rf_dt (rf_dr f) hd_32
          have hR_35 := hq_33.1
          have hM_36 := rf_smt (rf_smr f) hq_33.2.1
          obtain ⟨hP, hD⟩ := ty_shPD (w2 := ([(mu, .inl (ct 1, 42, .inr (.inl su))), (rf_MO mo mw ma mf m0 m1 mu mv u0 u1 iz (0) mb mn mpt mbg mwr mwk mlf men), (rf_RW ct 0 mw 958 f1_28)] ++ ws_27)) hP hD rfl
          refine lv_istore_n (lv' := [(2, .int r_25), (0, .ref mo), (1, .int p1)]) hx hb dX11_startNext_48 rfl hl (by decide) rfl (fun ls hl => ?_)
          refine lv_aload_n hx hb dX11_startNext_49 rfl (lv_at hl 1 rfl) ?_
          refine lv_iload_n hx hb dX11_startNext_50 rfl (lv_at hl 2 rfl) ?_
          refine lv_iload_n hx hb dX11_startNext_51 rfl (lv_at hl 0 rfl) ?_
          obtain ⟨hP, hD⟩ := ty_opPD (E1 := []) (E2 := [(rf_MO mo mw ma mf m0 m1 mu mv u0 u1 iz (0) mb mn mpt mbg mwr mwk mlf men), (rf_RW ct 0 mw 958 f1_28), (mu, .inl (ct 1, 42, .inr (.inl su)))]) (n := 3) [1, 2, 0] hP hD rfl rfl (by decide +kernel) ty_mva
          refine ty_Kv hP hD hS hA (va_runV (As := [.int p1, .int r_25]) (rest := []) ⟨hx, hb, hml, hown, hts⟩ (m_X11_startsOn l D ct S ws_27 ph xx mo mw ma mf m0 m1 mu mv u0 u1 iz mb (0 : Int32) mn mpt mbg mwr mwk mlf men f1_28 G (-1) su p1 r_25 _ hT hph hy1 hy11 hR_35 hz_6.1 (Or.inl rfl) hq_33.2.2) (cm_V 2 hts kc_X11_startsOn ki_RX11 kl_RX11_288 kv_X11_startsOn kx_X11_startsOn kd_X11_startsOn ⟨Nat.le_of_ble_eq_true rfl, Nat.le_of_ble_eq_true rfl⟩) (ty_preE (ci := 11) (q0 := 0) hP hK hD hS hA hX rfl rfl) rfl rfl hl.1 rfl (lv_room (Nat.le_of_ble_eq_true rfl)) dX11_startNext_52 ⟨Nat.le_of_ble_eq_true rfl, Nat.le_of_ble_eq_true rfl⟩) (fun u H locs hw_38 hP hD hS => ?_)
          obtain ⟨ws_39, f1_40, su1_41⟩ := u
          obtain ⟨hT, hp_42⟩ := hw_38
          have hp_42 : (q_X11_startsOn f1_28 su p1 r_25 f1_40 su1_41) ∧ rf_d (f1_28 8) f1_28 f1_40 ∧ rf_R G (-1) f1_40 := hp_42
          obtain ⟨hq_43, hp_44⟩ := hp_42
          obtain ⟨hd_45, hq_46⟩ := hp_44
          have hD_47 := rf_dt hD_34 hd_45
          have hR_48 := hq_46
          obtain ⟨hP, hD⟩ := ty_shPD (w2 := ([(rf_MO mo mw ma mf m0 m1 mu mv u0 u1 iz (0) mb mn mpt mbg mwr mwk mlf men), (rf_RW ct 0 mw 958 f1_40), (mu, .inl (ct 1, 42, .inr (.inl su1_41)))] ++ ws_39)) hP hD rfl
          refine lv_iload_n hx hb dX11_startNext_55 rfl (lv_at hl 0 rfl) ?_
          exact W.iret (v := r_25) hx hb hr (fun t ht hW => ⟨⟨r_25, (ws_39, (0 : Int32), f1_40, su1_41), rfl, ⟨hT, ⟨⟨th1_4, trivial, (Or.inl ⟨hz_6, (Or.inl ⟨hz_13, (Or.inr ⟨hz_20, (Or.inl ⟨hc_24, ⟨r_25, f1_28, hq_30, ⟨f1_40, su1_41, hq_43, ⟨rfl, rfl, rfl, rfl⟩⟩⟩⟩)⟩)⟩)⟩)⟩, ⟨hD_47, hR_48⟩⟩⟩, by rw [ht]; exact hP, by rw [hAe]; exact hD⟩, hS.F ht⟩) hS.2.2 dX11_startNext_56
        · refine lv_iconst (v := (-1)) hx hb dX11_startNext_41 (by decide) ?_
          obtain ⟨hP, hD⟩ := ty_ordPD (E2 := [(rf_MO mo mw ma mf m0 m1 mu mv u0 u1 iz (0) mb mn mpt mbg mwr mwk mlf men), (rf_RW ct 0 mw 958 f), (mu, .inl (ct 1, 42, .inr (.inl su)))]) (n := 3) [1, 2, 0] hP hD rfl rfl (by decide +kernel)
          exact W.iret (v := (-1)) hx hb hr (fun t ht hW => ⟨⟨(-1), (ws_23, (0 : Int32), f, su), rfl, ⟨hT, ⟨⟨th1_4, trivial, (Or.inl ⟨hz_6, (Or.inl ⟨hz_13, (Or.inr ⟨hz_20, (Or.inr ⟨hc_24, ⟨rfl, rfl, rfl, rfl⟩⟩)⟩)⟩)⟩)⟩, ⟨(rf_dr f), hR⟩⟩⟩, by rw [ht]; exact hP, by rw [hAe]; exact hD⟩, hS.F ht⟩) hS.2.2 dX11_startNext_42
    · refine lv_if_ne (tgt := 31) hx hb dX11_startNext_16 (by decide) (fun _ => ?_) (fun hc => absurd hc (by decide))
      refine lv_aload_n hx hb dX11_startNext_31 rfl (lv_at hl 0 rfl) ?_
      refine lv_iload_n hx hb dX11_startNext_32 rfl (lv_at hl 1 rfl) ?_
      refine lv_bipush (v := 39) hx hb dX11_startNext_33 (by decide) ?_
      obtain ⟨hP, hD⟩ := ty_ipPD (E1 := [(mu, .inl (ct 1, 42, .inr (.inl su)))]) (E2 := [(rf_MO mo mw ma mf m0 m1 mu mv u0 u1 iz (0) mb mn mpt mbg mwr mwk mlf men), (rf_RW ct 0 mw 958 f)]) hP hD rfl ty_mva
      refine ty_Ki hP hD hS hA (va_runV (As := [.int p1, .int 39]) (rest := []) ⟨hx, hb, hml, hown, hts⟩ (m_of_39 l D ct S ws_11 ph xx mo mw ma mf m0 m1 mu mv u0 u1 iz mb (0 : Int32) mn mpt mbg mwr mwk mlf men f G (-1) p1 _ hT hph hy1 hR hz_6.1) (cm_V 2 hts kc_X11_of ki_RX11 kl_RX11_209 kv_X11_of kx_X11_of kd_X11_of ⟨Nat.le_of_ble_eq_true rfl, Nat.le_of_ble_eq_true rfl⟩) (ty_preE (ci := 11) (q0 := 1) hP hK hD hS hA hX rfl rfl) rfl rfl hl.1 rfl (lv_room (Nat.le_of_ble_eq_true rfl)) dX11_startNext_35 ⟨Nat.le_of_ble_eq_true rfl, Nat.le_of_ble_eq_true rfl⟩) (fun r_50 u H locs hw_51 hP hD hS => ?_)
      obtain ⟨ws_52, rfl⟩ : ∃ z, z = u := ⟨_, rfl⟩
      obtain ⟨hT, rfl⟩ := hw_51
      obtain ⟨hP, hD⟩ := ty_shPD (w2 := ([(mu, .inl (ct 1, 42, .inr (.inl su))), (rf_MO mo mw ma mf m0 m1 mu mv u0 u1 iz (0) mb mn mpt mbg mwr mwk mlf men), (rf_RW ct 0 mw 958 f)] ++ ws_52)) hP hD rfl
      refine lv_if_ne (tgt := 43) hx hb dX11_startNext_38 (by decide) (fun hc_53 => ?_) (fun hc_53 => ?_)
      · refine lv_aload_n hx hb dX11_startNext_43 rfl (lv_at hl 0 rfl) ?_
        refine lv_iload_n hx hb dX11_startNext_44 rfl (lv_at hl 1 rfl) ?_
        obtain ⟨hP, hD⟩ := ty_ipPD (E1 := [(mu, .inl (ct 1, 42, .inr (.inl su)))]) (E2 := [(rf_MO mo mw ma mf m0 m1 mu mv u0 u1 iz (0) mb mn mpt mbg mwr mwk mlf men), (rf_RW ct 0 mw 958 f)]) hP hD rfl ty_mva
        refine ty_Ki hP hD hS hA (va_runV (As := [.int p1]) (rest := []) ⟨hx, hb, hml, hown, hts⟩ (m_X11_leavesQueue l D ct S ws_52 ph xx mo mw ma mf m0 m1 mu mv u0 u1 iz mb (0 : Int32) mn mpt mbg mwr mwk mlf men f G (-1) p1 _ hT hph hy1 hR hz_6.1 (rf_n0 hc_53 (rf_qk hR hz_6.1).1.1)) (cm_V 1 hts kc_X11_leavesQueue ki_RX11 kl_RX11_285 kv_X11_leavesQueue kx_X11_leavesQueue kd_X11_leavesQueue ⟨Nat.le_of_ble_eq_true rfl, Nat.le_of_ble_eq_true rfl⟩) (ty_preE (ci := 11) (q0 := 1) hP hK hD hS hA hX rfl rfl) rfl rfl hl.1 rfl (lv_room (Nat.le_of_ble_eq_true rfl)) dX11_startNext_45 ⟨Nat.le_of_ble_eq_true rfl, Nat.le_of_ble_eq_true rfl⟩) (fun r_54 u H locs hw_55 hP hD hS => ?_)
        obtain ⟨ws_56, f1_57⟩ := u
        obtain ⟨hT, hp_58⟩ := hw_55
        have hp_58 : (q_X11_leavesQueue f p1 r_54 f1_57) ∧ rf_d (f 8) f f1_57 ∧ rf_R G (-1) f1_57 ∧ rf_sm f f1_57 ∧ 0 ≤ r_54.toInt ∧ r_54.toInt < (G 10).toInt := hp_58
        obtain ⟨hq_59, hp_60⟩ := hp_58
        obtain ⟨hd_61, hq_62⟩ := hp_60
        have hD_63 := rf_dt (rf_dr f) hd_61
        have hR_64 := hq_62.1
        have hM_65 := rf_smt (rf_smr f) hq_62.2.1
        obtain ⟨hP, hD⟩ := ty_shPD (w2 := ([(mu, .inl (ct 1, 42, .inr (.inl su))), (rf_MO mo mw ma mf m0 m1 mu mv u0 u1 iz (0) mb mn mpt mbg mwr mwk mlf men), (rf_RW ct 0 mw 958 f1_57)] ++ ws_56)) hP hD rfl
        refine lv_istore_n (lv' := [(2, .int r_54), (0, .ref mo), (1, .int p1)]) hx hb dX11_startNext_48 rfl hl (by decide) rfl (fun ls hl => ?_)
        refine lv_aload_n hx hb dX11_startNext_49 rfl (lv_at hl 1 rfl) ?_
        refine lv_iload_n hx hb dX11_startNext_50 rfl (lv_at hl 2 rfl) ?_
        refine lv_iload_n hx hb dX11_startNext_51 rfl (lv_at hl 0 rfl) ?_
        obtain ⟨hP, hD⟩ := ty_opPD (E1 := []) (E2 := [(rf_MO mo mw ma mf m0 m1 mu mv u0 u1 iz (0) mb mn mpt mbg mwr mwk mlf men), (rf_RW ct 0 mw 958 f1_57), (mu, .inl (ct 1, 42, .inr (.inl su)))]) (n := 3) [1, 2, 0] hP hD rfl rfl (by decide +kernel) ty_mva
        refine ty_Kv hP hD hS hA (va_runV (As := [.int p1, .int r_54]) (rest := []) ⟨hx, hb, hml, hown, hts⟩ (m_X11_startsOn l D ct S ws_56 ph xx mo mw ma mf m0 m1 mu mv u0 u1 iz mb (0 : Int32) mn mpt mbg mwr mwk mlf men f1_57 G (-1) su p1 r_54 _ hT hph hy1 hy11 hR_64 hz_6.1 (Or.inl rfl) hq_62.2.2) (cm_V 2 hts kc_X11_startsOn ki_RX11 kl_RX11_288 kv_X11_startsOn kx_X11_startsOn kd_X11_startsOn ⟨Nat.le_of_ble_eq_true rfl, Nat.le_of_ble_eq_true rfl⟩) (ty_preE (ci := 11) (q0 := 0) hP hK hD hS hA hX rfl rfl) rfl rfl hl.1 rfl (lv_room (Nat.le_of_ble_eq_true rfl)) dX11_startNext_52 ⟨Nat.le_of_ble_eq_true rfl, Nat.le_of_ble_eq_true rfl⟩) (fun u H locs hw_67 hP hD hS => ?_)
        obtain ⟨ws_68, f1_69, su1_70⟩ := u
        obtain ⟨hT, hp_71⟩ := hw_67
        have hp_71 : (q_X11_startsOn f1_57 su p1 r_54 f1_69 su1_70) ∧ rf_d (f1_57 8) f1_57 f1_69 ∧ rf_R G (-1) f1_69 := hp_71
        obtain ⟨hq_72, hp_73⟩ := hp_71
        obtain ⟨hd_74, hq_75⟩ := hp_73
        have hD_76 := rf_dt hD_63 hd_74
        have hR_77 := hq_75
        obtain ⟨hP, hD⟩ := ty_shPD (w2 := ([(rf_MO mo mw ma mf m0 m1 mu mv u0 u1 iz (0) mb mn mpt mbg mwr mwk mlf men), (rf_RW ct 0 mw 958 f1_69), (mu, .inl (ct 1, 42, .inr (.inl su1_70)))] ++ ws_68)) hP hD rfl
        refine lv_iload_n hx hb dX11_startNext_55 rfl (lv_at hl 0 rfl) ?_
        exact W.iret (v := r_54) hx hb hr (fun t ht hW => ⟨⟨r_54, (ws_68, (0 : Int32), f1_69, su1_70), rfl, ⟨hT, ⟨⟨th1_4, trivial, (Or.inl ⟨hz_6, (Or.inr ⟨hz_14, (Or.inl ⟨hc_53, ⟨r_54, f1_57, hq_59, ⟨f1_69, su1_70, hq_72, ⟨rfl, rfl, rfl, rfl⟩⟩⟩⟩)⟩)⟩)⟩, ⟨hD_76, hR_77⟩⟩⟩, by rw [ht]; exact hP, by rw [hAe]; exact hD⟩, hS.F ht⟩) hS.2.2 dX11_startNext_56
      · refine lv_iconst (v := (-1)) hx hb dX11_startNext_41 (by decide) ?_
        obtain ⟨hP, hD⟩ := ty_ordPD (E2 := [(rf_MO mo mw ma mf m0 m1 mu mv u0 u1 iz (0) mb mn mpt mbg mwr mwk mlf men), (rf_RW ct 0 mw 958 f), (mu, .inl (ct 1, 42, .inr (.inl su)))]) (n := 3) [1, 2, 0] hP hD rfl rfl (by decide +kernel)
        exact W.iret (v := (-1)) hx hb hr (fun t ht hW => ⟨⟨(-1), (ws_52, (0 : Int32), f, su), rfl, ⟨hT, ⟨⟨th1_4, trivial, (Or.inl ⟨hz_6, (Or.inr ⟨hz_14, (Or.inr ⟨hc_53, ⟨rfl, rfl, rfl, rfl⟩⟩)⟩)⟩)⟩, ⟨(rf_dr f), hR⟩⟩⟩, by rw [ht]; exact hP, by rw [hAe]; exact hD⟩, hS.F ht⟩) hS.2.2 dX11_startNext_42
  · have he_79 := hz_7.2
    have hP : va_P D vwCl ([(mu, .inl (ct 1, 42, .inr (.inl su))), (rf_MO mo mw ma mf m0 m1 mu mv u0 u1 iz (1) mb mn mpt mbg mwr mwk mlf men), (rf_RW ct 0 mw 958 f)] ++ ws_3) H := by rw [he_79] at hP; exact hP
    have hD : va_D A ([(mu, .inl (ct 1, 42, .inr (.inl su))), (rf_MO mo mw ma mf m0 m1 mu mv u0 u1 iz (1) mb mn mpt mbg mwr mwk mlf men), (rf_RW ct 0 mw 958 f)] ++ ws_3) := by rw [he_79] at hD; exact hD
    refine lv_if_eq (tgt := 10) hx hb dX11_startNext_5 (by decide) (fun hc => absurd hc (by decide)) (fun _ => ?_)
    refine lv_iconst (v := 0) hx hb dX11_startNext_8 (by decide) ?_
    obtain ⟨hP, hD⟩ := ty_ordPD (E2 := [(rf_MO mo mw ma mf m0 m1 mu mv u0 u1 iz (1) mb mn mpt mbg mwr mwk mlf men), (rf_RW ct 0 mw 958 f), (mu, .inl (ct 1, 42, .inr (.inl su)))]) (n := 3) [1, 2, 0] hP hD rfl rfl (by decide +kernel)
    exact W.iret (v := 0) hx hb hr (fun t ht hW => ⟨⟨0, (ws_3, (1 : Int32), f, su), rfl, ⟨hT, ⟨⟨th1_4, trivial, (Or.inr ⟨hz_7, ⟨rfl, rfl, rfl, rfl⟩⟩)⟩, ⟨(rf_dr f), hR⟩⟩⟩, by rw [ht]; exact hP, by rw [hAe]; exact hD⟩, hS.F ht⟩) hS.2.2 dX11_startNext_9
def q_X11_queueAt (f : Nat → Int32) (G : Nat → Int32) (p1 : Int32) (p2 : Int32) (r : Int32) (th1 : Int32) : Prop := (∃ (th1_4 : Int32), True ∧ ((((0 ≤ p1.toInt ∧ p1.toInt < (G 9).toInt) ∧ th1_4 = 0) ∧ (((cm_rng p2.toInt64 0 (((rf_of f p1 39) - 1).toInt64)) = (0 : Int32) ∧ (r = (-1) ∧ th1 = 0)) ∨ (¬ (cm_rng p2.toInt64 0 (((rf_of f p1 39) - 1).toInt64)) = (0 : Int32) ∧ (r = (rf_of f p1 (40 + p2).toInt.toNat) ∧ th1 = 0)))) ∨ ((¬ (0 ≤ p1.toInt ∧ p1.toInt < (G 9).toInt) ∧ th1_4 = 1) ∧ (r = 0 ∧ th1 = 1))))
set_option maxRecDepth 100000 in
set_option maxHeartbeats 4000000 in
theorem m_X11_queueAt (l : Launch) (D : va_G) (ct : Nat → ClassId) (S : ty_S) (ws : va_W) (ph : va_W → Prop) (xx : Nat → Nat → Nat → Prop) (mo : Nat) (mw : Nat) (ma : Nat) (mf : Nat) (m0 : Nat) (m1 : Nat) (mu : Nat) (mv : Nat) (u0 : Nat) (u1 : Nat) (iz : Nat) (mb : Nat) (th : Int32) (mn : Int32) (mpt : Int32) (mbg : Int32) (mwr : Int32) (mwk : Int32) (mlf : Int32) (men : Int32) (f : Nat → Int32) (G : Nat → Int32) (cx : Int) (p1 : Int32) (p2 : Int32) (sz : Nat) (hT : ty_V ct S ph ws) (hph : ty_C ph xx) (hy1 : ty_y1 xx) (hR : rf_R G cx f) : Met l yX11_queueAt (ws_ yX11_queueAt cX11_queueAt 3 (some .int)) ({ frames := 2, cells := 0, slots := 0, locals := 46 } : Room) (va_Pc [.ref mo, .int p1, .int p2] (cmP D ct sz ([(rf_MO mo mw ma mf m0 m1 mu mv u0 u1 iz th mb mn mpt mbg mwr mwk mlf men), (rf_RW ct 0 mw 958 f)] ++ ws))) (va_Qi (fun (r : Int32) (u : va_W × Int32) => match u with | (u9, th1) => ty_V ct S ph u9 ∧ (q_X11_queueAt f G p1 p2 r th1)) (cmB D ([(rf_MO mo mw ma mf m0 m1 mu mv u0 u1 iz th mb mn mpt mbg mwr mwk mlf men), (rf_RW ct 0 mw 958 f)] ++ ws) sz (fun (u : va_W × Int32) => match u with | (u9, th1) => ([(rf_MO mo mw ma mf m0 m1 mu mv u0 u1 iz th1 mb mn mpt mbg mwr mwk mlf men), (rf_RW ct 0 mw 958 f)] ++ u9))) (va_A ([(rf_MO mo mw ma mf m0 m1 mu mv u0 u1 iz th mb mn mpt mbg mwr mwk mlf men), (rf_RW ct 0 mw 958 f)] ++ ws) sz)) 0 0 (va_A ([(rf_MO mo mw ma mf m0 m1 mu mv u0 u1 iz th mb mn mpt mbg mwr mwk mlf men), (rf_RW ct 0 mw 958 f)] ++ ws) sz) := by
  refine Met.ofW (cc := cX11_queueAt) (maxL := 3) (ret := (some .int)) (by decide) rfl ?_
  intro p e s m args below meth c s₁ B hml hv
  obtain ⟨rfl, hsz, hP, hK, hD0, hX⟩ := hv
  have hx := B.exec
  have hb := B.bytes
  have hr := B.returns
  have hts := ws_all (atoms_spec (ws := ws_ yX11_queueAt cX11_queueAt 3 (some .int)) B.pre)
  have hown : s.vm.findClass RX11 = some m.cls := findClass_of_methodNamed B.named
  have hlocks := B.notSynchronized
  subst hsz
  have hD := hD0.self (sz := s.heap.size)
  generalize hAe : va_A ([(rf_MO mo mw ma mf m0 m1 mu mv u0 u1 iz th mb mn mpt mbg mwr mwk mlf men), (rf_RW ct 0 mw 958 f)] ++ ws) s.heap.size = A at hD hX ⊢
  have hA : ∀ q : Nat, s.heap.size ≤ q → A q := fun q h => by rw [← hAe]; exact Or.inr h
  have hS : va_S A s.heap s.heap [] := va_S.rf
  have hl := lv_entry ([.ref mo, .int p1, .int p2]) (n := 3) (Nat.le_of_ble_eq_true rfl)
  rw [lg_entry_eq]
  generalize (lg_sl ([.ref mo, .int p1, .int p2]) ++ List.replicate (3 - (lg_sl ([.ref mo, .int p1, .int p2])).length) Slot.unset).toArray = ls at hl ⊢
  have hl : lv_has ls 3 [(0, .ref mo), (1, .int p1), (2, .int p2)] := hl
  refine lv_aload_n hx hb dX11_queueAt_0 rfl (lv_at hl 0 rfl) ?_
  refine lv_iload_n hx hb dX11_queueAt_1 rfl (lv_at hl 1 rfl) ?_
  obtain ⟨hP, hD⟩ := ty_ipPD (E1 := []) (E2 := [(rf_MO mo mw ma mf m0 m1 mu mv u0 u1 iz th mb mn mpt mbg mwr mwk mlf men), (rf_RW ct 0 mw 958 f)]) hP hD rfl ty_mva
  refine ty_Ki hP hD hS hA (va_runV (As := [.int p1]) (rest := []) ⟨hx, hb, hml, hown, hts⟩ (m_X11_noChannel l D ct S ws ph xx mo mw ma mf m0 m1 mu mv u0 u1 iz mb th mn mpt mbg mwr mwk mlf men f G cx p1 _ hT hph hy1 hR) (cm_V 1 hts kc_X11_noChannel ki_RX11 kl_RX11_344 kv_X11_noChannel kx_X11_noChannel kd_X11_noChannel ⟨Nat.le_of_ble_eq_true rfl, Nat.le_of_ble_eq_true rfl⟩) (ty_preE (ci := 11) (q0 := 0) hP hK hD hS hA hX rfl rfl) rfl rfl hl.1 rfl (lv_room (Nat.le_of_ble_eq_true rfl)) dX11_queueAt_2 ⟨Nat.le_of_ble_eq_true rfl, Nat.le_of_ble_eq_true rfl⟩) (fun r_1 u H locs hw_2 hP hD hS => ?_)
  obtain ⟨ws_3, th1_4⟩ := u
  obtain ⟨hT, hp_5⟩ := hw_2
  have hp_5 : ((r_1 = 0 ∧ (0 ≤ p1.toInt ∧ p1.toInt < (G 9).toInt) ∧ th1_4 = 0) ∨ (r_1 = 1 ∧ ¬ (0 ≤ p1.toInt ∧ p1.toInt < (G 9).toInt) ∧ th1_4 = 1)) := hp_5
  obtain ⟨hP, hD⟩ := ty_shPD (w2 := ([(rf_MO mo mw ma mf m0 m1 mu mv u0 u1 iz th1_4 mb mn mpt mbg mwr mwk mlf men), (rf_RW ct 0 mw 958 f)] ++ ws_3)) hP hD rfl
  rcases hp_5 with ⟨rfl, hz_6⟩ | ⟨rfl, hz_7⟩
  · have he_8 := hz_6.2
    have hP : va_P D vwCl ([(rf_MO mo mw ma mf m0 m1 mu mv u0 u1 iz (0) mb mn mpt mbg mwr mwk mlf men), (rf_RW ct 0 mw 958 f)] ++ ws_3) H := by rw [he_8] at hP; exact hP
    have hD : va_D A ([(rf_MO mo mw ma mf m0 m1 mu mv u0 u1 iz (0) mb mn mpt mbg mwr mwk mlf men), (rf_RW ct 0 mw 958 f)] ++ ws_3) := by rw [he_8] at hD; exact hD
    refine lv_if_eq (tgt := 10) hx hb dX11_queueAt_5 (by decide) (fun _ => ?_) (fun hc => absurd (by decide) hc)
    refine lv_iload_n hx hb dX11_queueAt_10 rfl (lv_at hl 2 rfl) ?_
    refine lv_i2l hx hb dX11_queueAt_11 rfl ?_
    refine lv_lconst (v := 0) hx hb dX11_queueAt_12 (by decide) ?_
    refine lv_aload_n hx hb dX11_queueAt_13 rfl (lv_at hl 0 rfl) ?_
    refine lv_iload_n hx hb dX11_queueAt_14 rfl (lv_at hl 1 rfl) ?_
    refine lv_bipush (v := 39) hx hb dX11_queueAt_15 (by decide) ?_
    obtain ⟨hP, hD⟩ := ty_ipPD (E1 := []) (E2 := [(rf_MO mo mw ma mf m0 m1 mu mv u0 u1 iz (0) mb mn mpt mbg mwr mwk mlf men), (rf_RW ct 0 mw 958 f)]) hP hD rfl ty_mva
    refine ty_Ki hP hD hS hA (va_runV (As := [.int p1, .int 39]) (rest := [.long 0, .long p2.toInt64]) ⟨hx, hb, hml, hown, hts⟩ (m_of_39 l D ct S ws_3 ph xx mo mw ma mf m0 m1 mu mv u0 u1 iz mb (0 : Int32) mn mpt mbg mwr mwk mlf men f G cx p1 _ hT hph hy1 hR hz_6.1) (cm_V 2 hts kc_X11_of ki_RX11 kl_RX11_209 kv_X11_of kx_X11_of kd_X11_of ⟨Nat.le_of_ble_eq_true rfl, Nat.le_of_ble_eq_true rfl⟩) (ty_preE (ci := 11) (q0 := 0) hP hK hD hS hA hX rfl rfl) rfl rfl hl.1 rfl (lv_room (Nat.le_of_ble_eq_true rfl)) dX11_queueAt_17 ⟨Nat.le_of_ble_eq_true rfl, Nat.le_of_ble_eq_true rfl⟩) (fun r_9 u H locs hw_10 hP hD hS => ?_)
    obtain ⟨ws_11, rfl⟩ : ∃ z, z = u := ⟨_, rfl⟩
    obtain ⟨hT, rfl⟩ := hw_10
    obtain ⟨hP, hD⟩ := ty_shPD (w2 := ([(rf_MO mo mw ma mf m0 m1 mu mv u0 u1 iz (0) mb mn mpt mbg mwr mwk mlf men), (rf_RW ct 0 mw 958 f)] ++ ws_11)) hP hD rfl
    refine lv_iconst (v := 1) hx hb dX11_queueAt_20 (by decide) ?_
    refine lv_isub hx hb dX11_queueAt_21 ?_
    refine lv_i2l hx hb dX11_queueAt_22 rfl ?_
    obtain ⟨hP, hD⟩ := ty_ipPD (E1 := [(rf_MO mo mw ma mf m0 m1 mu mv u0 u1 iz (0) mb mn mpt mbg mwr mwk mlf men), (rf_RW ct 0 mw 958 f)]) (E2 := []) hP hD rfl ty_mva
    refine ty_Ki hP hD hS hA (va_runS (As := [.long p2.toInt64, .long 0, .long (((rf_of f p1 39) - 1).toInt64)]) (rest := []) ⟨hx, hb, hml, hown, hts⟩ (m_X11_in l D ct S ws_11 ph xx p2.toInt64 (0 : Int64) (((rf_of f p1 39) - 1).toInt64) _ hT hph hy1) (cm_S 3 hts kc_X11_in ki_RX11 kl_RX11_70 ks_X11_in kd_X11_in ⟨Nat.le_of_ble_eq_true rfl, Nat.le_of_ble_eq_true rfl⟩) (ty_preS hP hK hD hS hA hX) rfl rfl hl.1 rfl (lv_room (Nat.le_of_ble_eq_true rfl)) dX11_queueAt_23 ⟨Nat.le_of_ble_eq_true rfl, Nat.le_of_ble_eq_true rfl⟩) (fun r_12 u H locs hw_13 hP hD hS => ?_)
    obtain ⟨ws_14, rfl⟩ : ∃ z, z = u := ⟨_, rfl⟩
    obtain ⟨hT, rfl⟩ := hw_13
    obtain ⟨hP, hD⟩ := ty_shPD (w2 := ([(rf_MO mo mw ma mf m0 m1 mu mv u0 u1 iz (0) mb mn mpt mbg mwr mwk mlf men), (rf_RW ct 0 mw 958 f)] ++ ws_14)) hP hD rfl
    refine lv_if_eq (tgt := 41) hx hb dX11_queueAt_26 (by decide) (fun hc_15 => ?_) (fun hc_15 => ?_)
    · refine lv_iconst (v := (-1)) hx hb dX11_queueAt_41 (by decide) ?_
      exact W.iret (v := (-1)) hx hb hr (fun t ht hW => ⟨⟨(-1), (ws_14, (0 : Int32)), rfl, ⟨hT, ⟨th1_4, trivial, (Or.inl ⟨hz_6, (Or.inl ⟨hc_15, ⟨rfl, rfl⟩⟩)⟩)⟩⟩, by rw [ht]; exact hP, by rw [hAe]; exact hD⟩, hS.F ht⟩) hS.2.2 dX11_queueAt_42
    · refine lv_aload_n hx hb dX11_queueAt_29 rfl (lv_at hl 0 rfl) ?_
      refine lv_iload_n hx hb dX11_queueAt_30 rfl (lv_at hl 1 rfl) ?_
      refine lv_bipush (v := 40) hx hb dX11_queueAt_31 (by decide) ?_
      refine lv_iload_n hx hb dX11_queueAt_33 rfl (lv_at hl 2 rfl) ?_
      refine lv_iadd hx hb dX11_queueAt_34 ?_
      obtain ⟨hP, hD⟩ := ty_ipPD (E1 := []) (E2 := [(rf_MO mo mw ma mf m0 m1 mu mv u0 u1 iz (0) mb mn mpt mbg mwr mwk mlf men), (rf_RW ct 0 mw 958 f)]) hP hD rfl ty_mva
      refine ty_Ki hP hD hS hA (va_runV (As := [.int p1, .int (40 + p2)]) (rest := []) ⟨hx, hb, hml, hown, hts⟩ (m_of_v l D ct S ws_14 ph xx mo mw ma mf m0 m1 mu mv u0 u1 iz mb (0 : Int32) mn mpt mbg mwr mwk mlf men f G cx p1 (40 + p2) _ hT hph hy1 hR hz_6.1 (by have := rf_qk hR hz_6.1; have := rf_rngi (L := 0) (by decide) (by omega) (rf_ne0 hc_15); have := rf_qix (q := p2) (by omega); omega)) (cm_V 2 hts kc_X11_of ki_RX11 kl_RX11_209 kv_X11_of kx_X11_of kd_X11_of ⟨Nat.le_of_ble_eq_true rfl, Nat.le_of_ble_eq_true rfl⟩) (ty_preE (ci := 11) (q0 := 0) hP hK hD hS hA hX rfl rfl) rfl rfl hl.1 rfl (lv_room (Nat.le_of_ble_eq_true rfl)) dX11_queueAt_35 ⟨Nat.le_of_ble_eq_true rfl, Nat.le_of_ble_eq_true rfl⟩) (fun r_16 u H locs hw_17 hP hD hS => ?_)
      obtain ⟨ws_18, rfl⟩ : ∃ z, z = u := ⟨_, rfl⟩
      obtain ⟨hT, rfl⟩ := hw_17
      obtain ⟨hP, hD⟩ := ty_shPD (w2 := ([(rf_MO mo mw ma mf m0 m1 mu mv u0 u1 iz (0) mb mn mpt mbg mwr mwk mlf men), (rf_RW ct 0 mw 958 f)] ++ ws_18)) hP hD rfl
      refine lv_goto (tgt := 42) hx hb dX11_queueAt_38 (by decide) ?_
      exact W.iret (v := (rf_of f p1 (40 + p2).toInt.toNat)) hx hb hr (fun t ht hW => ⟨⟨(rf_of f p1 (40 + p2).toInt.toNat), (ws_18, (0 : Int32)), rfl, ⟨hT, ⟨th1_4, trivial, (Or.inl ⟨hz_6, (Or.inr ⟨hc_15, ⟨rfl, rfl⟩⟩)⟩)⟩⟩, by rw [ht]; exact hP, by rw [hAe]; exact hD⟩, hS.F ht⟩) hS.2.2 dX11_queueAt_42
  · have he_19 := hz_7.2
    have hP : va_P D vwCl ([(rf_MO mo mw ma mf m0 m1 mu mv u0 u1 iz (1) mb mn mpt mbg mwr mwk mlf men), (rf_RW ct 0 mw 958 f)] ++ ws_3) H := by rw [he_19] at hP; exact hP
    have hD : va_D A ([(rf_MO mo mw ma mf m0 m1 mu mv u0 u1 iz (1) mb mn mpt mbg mwr mwk mlf men), (rf_RW ct 0 mw 958 f)] ++ ws_3) := by rw [he_19] at hD; exact hD
    refine lv_if_eq (tgt := 10) hx hb dX11_queueAt_5 (by decide) (fun hc => absurd hc (by decide)) (fun _ => ?_)
    refine lv_iconst (v := 0) hx hb dX11_queueAt_8 (by decide) ?_
    exact W.iret (v := 0) hx hb hr (fun t ht hW => ⟨⟨0, (ws_3, (1 : Int32)), rfl, ⟨hT, ⟨th1_4, trivial, (Or.inr ⟨hz_7, ⟨rfl, rfl⟩⟩)⟩⟩, by rw [ht]; exact hP, by rw [hAe]; exact hD⟩, hS.F ht⟩) hS.2.2 dX11_queueAt_9
def q_X11_queueSize (f : Nat → Int32) (G : Nat → Int32) (p1 : Int32) (r : Int32) (th1 : Int32) : Prop := (∃ (th1_4 : Int32), True ∧ ((((0 ≤ p1.toInt ∧ p1.toInt < (G 9).toInt) ∧ th1_4 = 0) ∧ (r = (rf_of f p1 39) ∧ th1 = 0)) ∨ ((¬ (0 ≤ p1.toInt ∧ p1.toInt < (G 9).toInt) ∧ th1_4 = 1) ∧ (r = 0 ∧ th1 = 1))))
set_option maxRecDepth 100000 in
set_option maxHeartbeats 4000000 in
theorem m_X11_queueSize (l : Launch) (D : va_G) (ct : Nat → ClassId) (S : ty_S) (ws : va_W) (ph : va_W → Prop) (xx : Nat → Nat → Nat → Prop) (mo : Nat) (mw : Nat) (ma : Nat) (mf : Nat) (m0 : Nat) (m1 : Nat) (mu : Nat) (mv : Nat) (u0 : Nat) (u1 : Nat) (iz : Nat) (mb : Nat) (th : Int32) (mn : Int32) (mpt : Int32) (mbg : Int32) (mwr : Int32) (mwk : Int32) (mlf : Int32) (men : Int32) (f : Nat → Int32) (G : Nat → Int32) (cx : Int) (p1 : Int32) (sz : Nat) (hT : ty_V ct S ph ws) (hph : ty_C ph xx) (hy1 : ty_y1 xx) (hR : rf_R G cx f) : Met l yX11_queueSize (ws_ yX11_queueSize cX11_queueSize 2 (some .int)) ({ frames := 2, cells := 0, slots := 0, locals := 46 } : Room) (va_Pc [.ref mo, .int p1] (cmP D ct sz ([(rf_MO mo mw ma mf m0 m1 mu mv u0 u1 iz th mb mn mpt mbg mwr mwk mlf men), (rf_RW ct 0 mw 958 f)] ++ ws))) (va_Qi (fun (r : Int32) (u : va_W × Int32) => match u with | (u9, th1) => ty_V ct S ph u9 ∧ (q_X11_queueSize f G p1 r th1)) (cmB D ([(rf_MO mo mw ma mf m0 m1 mu mv u0 u1 iz th mb mn mpt mbg mwr mwk mlf men), (rf_RW ct 0 mw 958 f)] ++ ws) sz (fun (u : va_W × Int32) => match u with | (u9, th1) => ([(rf_MO mo mw ma mf m0 m1 mu mv u0 u1 iz th1 mb mn mpt mbg mwr mwk mlf men), (rf_RW ct 0 mw 958 f)] ++ u9))) (va_A ([(rf_MO mo mw ma mf m0 m1 mu mv u0 u1 iz th mb mn mpt mbg mwr mwk mlf men), (rf_RW ct 0 mw 958 f)] ++ ws) sz)) 0 0 (va_A ([(rf_MO mo mw ma mf m0 m1 mu mv u0 u1 iz th mb mn mpt mbg mwr mwk mlf men), (rf_RW ct 0 mw 958 f)] ++ ws) sz) := by
  refine Met.ofW (cc := cX11_queueSize) (maxL := 2) (ret := (some .int)) (by decide) rfl ?_
  intro p e s m args below meth c s₁ B hml hv
  obtain ⟨rfl, hsz, hP, hK, hD0, hX⟩ := hv
  have hx := B.exec
  have hb := B.bytes
  have hr := B.returns
  have hts := ws_all (atoms_spec (ws := ws_ yX11_queueSize cX11_queueSize 2 (some .int)) B.pre)
  have hown : s.vm.findClass RX11 = some m.cls := findClass_of_methodNamed B.named
  have hlocks := B.notSynchronized
  subst hsz
  have hD := hD0.self (sz := s.heap.size)
  generalize hAe : va_A ([(rf_MO mo mw ma mf m0 m1 mu mv u0 u1 iz th mb mn mpt mbg mwr mwk mlf men), (rf_RW ct 0 mw 958 f)] ++ ws) s.heap.size = A at hD hX ⊢
  have hA : ∀ q : Nat, s.heap.size ≤ q → A q := fun q h => by rw [← hAe]; exact Or.inr h
  have hS : va_S A s.heap s.heap [] := va_S.rf
  have hl := lv_entry ([.ref mo, .int p1]) (n := 2) (Nat.le_of_ble_eq_true rfl)
  rw [lg_entry_eq]
  generalize (lg_sl ([.ref mo, .int p1]) ++ List.replicate (2 - (lg_sl ([.ref mo, .int p1])).length) Slot.unset).toArray = ls at hl ⊢
  have hl : lv_has ls 2 [(0, .ref mo), (1, .int p1)] := hl
  refine lv_aload_n hx hb dX11_queueSize_0 rfl (lv_at hl 0 rfl) ?_
  refine lv_iload_n hx hb dX11_queueSize_1 rfl (lv_at hl 1 rfl) ?_
  obtain ⟨hP, hD⟩ := ty_ipPD (E1 := []) (E2 := [(rf_MO mo mw ma mf m0 m1 mu mv u0 u1 iz th mb mn mpt mbg mwr mwk mlf men), (rf_RW ct 0 mw 958 f)]) hP hD rfl ty_mva
  refine ty_Ki hP hD hS hA (va_runV (As := [.int p1]) (rest := []) ⟨hx, hb, hml, hown, hts⟩ (m_X11_noChannel l D ct S ws ph xx mo mw ma mf m0 m1 mu mv u0 u1 iz mb th mn mpt mbg mwr mwk mlf men f G cx p1 _ hT hph hy1 hR) (cm_V 1 hts kc_X11_noChannel ki_RX11 kl_RX11_344 kv_X11_noChannel kx_X11_noChannel kd_X11_noChannel ⟨Nat.le_of_ble_eq_true rfl, Nat.le_of_ble_eq_true rfl⟩) (ty_preE (ci := 11) (q0 := 0) hP hK hD hS hA hX rfl rfl) rfl rfl hl.1 rfl (lv_room (Nat.le_of_ble_eq_true rfl)) dX11_queueSize_2 ⟨Nat.le_of_ble_eq_true rfl, Nat.le_of_ble_eq_true rfl⟩) (fun r_1 u H locs hw_2 hP hD hS => ?_)
  obtain ⟨ws_3, th1_4⟩ := u
  obtain ⟨hT, hp_5⟩ := hw_2
  have hp_5 : ((r_1 = 0 ∧ (0 ≤ p1.toInt ∧ p1.toInt < (G 9).toInt) ∧ th1_4 = 0) ∨ (r_1 = 1 ∧ ¬ (0 ≤ p1.toInt ∧ p1.toInt < (G 9).toInt) ∧ th1_4 = 1)) := hp_5
  obtain ⟨hP, hD⟩ := ty_shPD (w2 := ([(rf_MO mo mw ma mf m0 m1 mu mv u0 u1 iz th1_4 mb mn mpt mbg mwr mwk mlf men), (rf_RW ct 0 mw 958 f)] ++ ws_3)) hP hD rfl
  rcases hp_5 with ⟨rfl, hz_6⟩ | ⟨rfl, hz_7⟩
  · have he_8 := hz_6.2
    have hP : va_P D vwCl ([(rf_MO mo mw ma mf m0 m1 mu mv u0 u1 iz (0) mb mn mpt mbg mwr mwk mlf men), (rf_RW ct 0 mw 958 f)] ++ ws_3) H := by rw [he_8] at hP; exact hP
    have hD : va_D A ([(rf_MO mo mw ma mf m0 m1 mu mv u0 u1 iz (0) mb mn mpt mbg mwr mwk mlf men), (rf_RW ct 0 mw 958 f)] ++ ws_3) := by rw [he_8] at hD; exact hD
    refine lv_if_eq (tgt := 12) hx hb dX11_queueSize_5 (by decide) (fun _ => ?_) (fun hc => absurd (by decide) hc)
    refine lv_aload_n hx hb dX11_queueSize_12 rfl (lv_at hl 0 rfl) ?_
    refine lv_iload_n hx hb dX11_queueSize_13 rfl (lv_at hl 1 rfl) ?_
    refine lv_bipush (v := 39) hx hb dX11_queueSize_14 (by decide) ?_
    obtain ⟨hP, hD⟩ := ty_ipPD (E1 := []) (E2 := [(rf_MO mo mw ma mf m0 m1 mu mv u0 u1 iz (0) mb mn mpt mbg mwr mwk mlf men), (rf_RW ct 0 mw 958 f)]) hP hD rfl ty_mva
    refine ty_Ki hP hD hS hA (va_runV (As := [.int p1, .int 39]) (rest := []) ⟨hx, hb, hml, hown, hts⟩ (m_of_39 l D ct S ws_3 ph xx mo mw ma mf m0 m1 mu mv u0 u1 iz mb (0 : Int32) mn mpt mbg mwr mwk mlf men f G cx p1 _ hT hph hy1 hR hz_6.1) (cm_V 2 hts kc_X11_of ki_RX11 kl_RX11_209 kv_X11_of kx_X11_of kd_X11_of ⟨Nat.le_of_ble_eq_true rfl, Nat.le_of_ble_eq_true rfl⟩) (ty_preE (ci := 11) (q0 := 0) hP hK hD hS hA hX rfl rfl) rfl rfl hl.1 rfl (lv_room (Nat.le_of_ble_eq_true rfl)) dX11_queueSize_16 ⟨Nat.le_of_ble_eq_true rfl, Nat.le_of_ble_eq_true rfl⟩) (fun r_9 u H locs hw_10 hP hD hS => ?_)
    obtain ⟨ws_11, rfl⟩ : ∃ z, z = u := ⟨_, rfl⟩
    obtain ⟨hT, rfl⟩ := hw_10
    obtain ⟨hP, hD⟩ := ty_shPD (w2 := ([(rf_MO mo mw ma mf m0 m1 mu mv u0 u1 iz (0) mb mn mpt mbg mwr mwk mlf men), (rf_RW ct 0 mw 958 f)] ++ ws_11)) hP hD rfl
    exact W.iret (v := (rf_of f p1 39)) hx hb hr (fun t ht hW => ⟨⟨(rf_of f p1 39), (ws_11, (0 : Int32)), rfl, ⟨hT, ⟨th1_4, trivial, (Or.inl ⟨hz_6, ⟨rfl, rfl⟩⟩)⟩⟩, by rw [ht]; exact hP, by rw [hAe]; exact hD⟩, hS.F ht⟩) hS.2.2 dX11_queueSize_19
  · have he_12 := hz_7.2
    have hP : va_P D vwCl ([(rf_MO mo mw ma mf m0 m1 mu mv u0 u1 iz (1) mb mn mpt mbg mwr mwk mlf men), (rf_RW ct 0 mw 958 f)] ++ ws_3) H := by rw [he_12] at hP; exact hP
    have hD : va_D A ([(rf_MO mo mw ma mf m0 m1 mu mv u0 u1 iz (1) mb mn mpt mbg mwr mwk mlf men), (rf_RW ct 0 mw 958 f)] ++ ws_3) := by rw [he_12] at hD; exact hD
    refine lv_if_eq (tgt := 12) hx hb dX11_queueSize_5 (by decide) (fun hc => absurd hc (by decide)) (fun _ => ?_)
    refine lv_iconst (v := 0) hx hb dX11_queueSize_8 (by decide) ?_
    refine lv_goto (tgt := 19) hx hb dX11_queueSize_9 (by decide) ?_
    exact W.iret (v := 0) hx hb hr (fun t ht hW => ⟨⟨0, (ws_3, (1 : Int32)), rfl, ⟨hT, ⟨th1_4, trivial, (Or.inr ⟨hz_7, ⟨rfl, rfl⟩⟩)⟩⟩, by rw [ht]; exact hP, by rw [hAe]; exact hD⟩, hS.F ht⟩) hS.2.2 dX11_queueSize_19
def q_X11_internalResistance (f : Nat → Int32) (G : Nat → Int32) (p1 : Int32) (r : Int32) (th1 : Int32) : Prop := (∃ (th1_4 : Int32), True ∧ ((((0 ≤ p1.toInt ∧ p1.toInt < (G 9).toInt) ∧ th1_4 = 0) ∧ (r = (rf_of f p1 38) ∧ th1 = 0)) ∨ ((¬ (0 ≤ p1.toInt ∧ p1.toInt < (G 9).toInt) ∧ th1_4 = 1) ∧ (r = 0 ∧ th1 = 1))))
set_option maxRecDepth 100000 in
set_option maxHeartbeats 4000000 in
theorem m_X11_internalResistance (l : Launch) (D : va_G) (ct : Nat → ClassId) (S : ty_S) (ws : va_W) (ph : va_W → Prop) (xx : Nat → Nat → Nat → Prop) (mo : Nat) (mw : Nat) (ma : Nat) (mf : Nat) (m0 : Nat) (m1 : Nat) (mu : Nat) (mv : Nat) (u0 : Nat) (u1 : Nat) (iz : Nat) (mb : Nat) (th : Int32) (mn : Int32) (mpt : Int32) (mbg : Int32) (mwr : Int32) (mwk : Int32) (mlf : Int32) (men : Int32) (f : Nat → Int32) (G : Nat → Int32) (cx : Int) (p1 : Int32) (sz : Nat) (hT : ty_V ct S ph ws) (hph : ty_C ph xx) (hy1 : ty_y1 xx) (hR : rf_R G cx f) : Met l yX11_internalResistance (ws_ yX11_internalResistance cX11_internalResistance 2 (some .int)) ({ frames := 2, cells := 0, slots := 0, locals := 46 } : Room) (va_Pc [.ref mo, .int p1] (cmP D ct sz ([(rf_MO mo mw ma mf m0 m1 mu mv u0 u1 iz th mb mn mpt mbg mwr mwk mlf men), (rf_RW ct 0 mw 958 f)] ++ ws))) (va_Qi (fun (r : Int32) (u : va_W × Int32) => match u with | (u9, th1) => ty_V ct S ph u9 ∧ (q_X11_internalResistance f G p1 r th1)) (cmB D ([(rf_MO mo mw ma mf m0 m1 mu mv u0 u1 iz th mb mn mpt mbg mwr mwk mlf men), (rf_RW ct 0 mw 958 f)] ++ ws) sz (fun (u : va_W × Int32) => match u with | (u9, th1) => ([(rf_MO mo mw ma mf m0 m1 mu mv u0 u1 iz th1 mb mn mpt mbg mwr mwk mlf men), (rf_RW ct 0 mw 958 f)] ++ u9))) (va_A ([(rf_MO mo mw ma mf m0 m1 mu mv u0 u1 iz th mb mn mpt mbg mwr mwk mlf men), (rf_RW ct 0 mw 958 f)] ++ ws) sz)) 0 0 (va_A ([(rf_MO mo mw ma mf m0 m1 mu mv u0 u1 iz th mb mn mpt mbg mwr mwk mlf men), (rf_RW ct 0 mw 958 f)] ++ ws) sz) := by
  refine Met.ofW (cc := cX11_internalResistance) (maxL := 2) (ret := (some .int)) (by decide) rfl ?_
  intro p e s m args below meth c s₁ B hml hv
  obtain ⟨rfl, hsz, hP, hK, hD0, hX⟩ := hv
  have hx := B.exec
  have hb := B.bytes
  have hr := B.returns
  have hts := ws_all (atoms_spec (ws := ws_ yX11_internalResistance cX11_internalResistance 2 (some .int)) B.pre)
  have hown : s.vm.findClass RX11 = some m.cls := findClass_of_methodNamed B.named
  have hlocks := B.notSynchronized
  subst hsz
  have hD := hD0.self (sz := s.heap.size)
  generalize hAe : va_A ([(rf_MO mo mw ma mf m0 m1 mu mv u0 u1 iz th mb mn mpt mbg mwr mwk mlf men), (rf_RW ct 0 mw 958 f)] ++ ws) s.heap.size = A at hD hX ⊢
  have hA : ∀ q : Nat, s.heap.size ≤ q → A q := fun q h => by rw [← hAe]; exact Or.inr h
  have hS : va_S A s.heap s.heap [] := va_S.rf
  have hl := lv_entry ([.ref mo, .int p1]) (n := 2) (Nat.le_of_ble_eq_true rfl)
  rw [lg_entry_eq]
  generalize (lg_sl ([.ref mo, .int p1]) ++ List.replicate (2 - (lg_sl ([.ref mo, .int p1])).length) Slot.unset).toArray = ls at hl ⊢
  have hl : lv_has ls 2 [(0, .ref mo), (1, .int p1)] := hl
  refine lv_aload_n hx hb dX11_internalResistance_0 rfl (lv_at hl 0 rfl) ?_
  refine lv_iload_n hx hb dX11_internalResistance_1 rfl (lv_at hl 1 rfl) ?_
  obtain ⟨hP, hD⟩ := ty_ipPD (E1 := []) (E2 := [(rf_MO mo mw ma mf m0 m1 mu mv u0 u1 iz th mb mn mpt mbg mwr mwk mlf men), (rf_RW ct 0 mw 958 f)]) hP hD rfl ty_mva
  refine ty_Ki hP hD hS hA (va_runV (As := [.int p1]) (rest := []) ⟨hx, hb, hml, hown, hts⟩ (m_X11_noChannel l D ct S ws ph xx mo mw ma mf m0 m1 mu mv u0 u1 iz mb th mn mpt mbg mwr mwk mlf men f G cx p1 _ hT hph hy1 hR) (cm_V 1 hts kc_X11_noChannel ki_RX11 kl_RX11_344 kv_X11_noChannel kx_X11_noChannel kd_X11_noChannel ⟨Nat.le_of_ble_eq_true rfl, Nat.le_of_ble_eq_true rfl⟩) (ty_preE (ci := 11) (q0 := 0) hP hK hD hS hA hX rfl rfl) rfl rfl hl.1 rfl (lv_room (Nat.le_of_ble_eq_true rfl)) dX11_internalResistance_2 ⟨Nat.le_of_ble_eq_true rfl, Nat.le_of_ble_eq_true rfl⟩) (fun r_1 u H locs hw_2 hP hD hS => ?_)
  obtain ⟨ws_3, th1_4⟩ := u
  obtain ⟨hT, hp_5⟩ := hw_2
  have hp_5 : ((r_1 = 0 ∧ (0 ≤ p1.toInt ∧ p1.toInt < (G 9).toInt) ∧ th1_4 = 0) ∨ (r_1 = 1 ∧ ¬ (0 ≤ p1.toInt ∧ p1.toInt < (G 9).toInt) ∧ th1_4 = 1)) := hp_5
  obtain ⟨hP, hD⟩ := ty_shPD (w2 := ([(rf_MO mo mw ma mf m0 m1 mu mv u0 u1 iz th1_4 mb mn mpt mbg mwr mwk mlf men), (rf_RW ct 0 mw 958 f)] ++ ws_3)) hP hD rfl
  rcases hp_5 with ⟨rfl, hz_6⟩ | ⟨rfl, hz_7⟩
  · have he_8 := hz_6.2
    have hP : va_P D vwCl ([(rf_MO mo mw ma mf m0 m1 mu mv u0 u1 iz (0) mb mn mpt mbg mwr mwk mlf men), (rf_RW ct 0 mw 958 f)] ++ ws_3) H := by rw [he_8] at hP; exact hP
    have hD : va_D A ([(rf_MO mo mw ma mf m0 m1 mu mv u0 u1 iz (0) mb mn mpt mbg mwr mwk mlf men), (rf_RW ct 0 mw 958 f)] ++ ws_3) := by rw [he_8] at hD; exact hD
    refine lv_if_eq (tgt := 12) hx hb dX11_internalResistance_5 (by decide) (fun _ => ?_) (fun hc => absurd (by decide) hc)
    refine lv_aload_n hx hb dX11_internalResistance_12 rfl (lv_at hl 0 rfl) ?_
    refine lv_iload_n hx hb dX11_internalResistance_13 rfl (lv_at hl 1 rfl) ?_
    refine lv_bipush (v := 38) hx hb dX11_internalResistance_14 (by decide) ?_
    obtain ⟨hP, hD⟩ := ty_ipPD (E1 := []) (E2 := [(rf_MO mo mw ma mf m0 m1 mu mv u0 u1 iz (0) mb mn mpt mbg mwr mwk mlf men), (rf_RW ct 0 mw 958 f)]) hP hD rfl ty_mva
    refine ty_Ki hP hD hS hA (va_runV (As := [.int p1, .int 38]) (rest := []) ⟨hx, hb, hml, hown, hts⟩ (m_of_38 l D ct S ws_3 ph xx mo mw ma mf m0 m1 mu mv u0 u1 iz mb (0 : Int32) mn mpt mbg mwr mwk mlf men f G cx p1 _ hT hph hy1 hR hz_6.1) (cm_V 2 hts kc_X11_of ki_RX11 kl_RX11_209 kv_X11_of kx_X11_of kd_X11_of ⟨Nat.le_of_ble_eq_true rfl, Nat.le_of_ble_eq_true rfl⟩) (ty_preE (ci := 11) (q0 := 0) hP hK hD hS hA hX rfl rfl) rfl rfl hl.1 rfl (lv_room (Nat.le_of_ble_eq_true rfl)) dX11_internalResistance_16 ⟨Nat.le_of_ble_eq_true rfl, Nat.le_of_ble_eq_true rfl⟩) (fun r_9 u H locs hw_10 hP hD hS => ?_)
    obtain ⟨ws_11, rfl⟩ : ∃ z, z = u := ⟨_, rfl⟩
    obtain ⟨hT, rfl⟩ := hw_10
    obtain ⟨hP, hD⟩ := ty_shPD (w2 := ([(rf_MO mo mw ma mf m0 m1 mu mv u0 u1 iz (0) mb mn mpt mbg mwr mwk mlf men), (rf_RW ct 0 mw 958 f)] ++ ws_11)) hP hD rfl
    exact W.iret (v := (rf_of f p1 38)) hx hb hr (fun t ht hW => ⟨⟨(rf_of f p1 38), (ws_11, (0 : Int32)), rfl, ⟨hT, ⟨th1_4, trivial, (Or.inl ⟨hz_6, ⟨rfl, rfl⟩⟩)⟩⟩, by rw [ht]; exact hP, by rw [hAe]; exact hD⟩, hS.F ht⟩) hS.2.2 dX11_internalResistance_19
  · have he_12 := hz_7.2
    have hP : va_P D vwCl ([(rf_MO mo mw ma mf m0 m1 mu mv u0 u1 iz (1) mb mn mpt mbg mwr mwk mlf men), (rf_RW ct 0 mw 958 f)] ++ ws_3) H := by rw [he_12] at hP; exact hP
    have hD : va_D A ([(rf_MO mo mw ma mf m0 m1 mu mv u0 u1 iz (1) mb mn mpt mbg mwr mwk mlf men), (rf_RW ct 0 mw 958 f)] ++ ws_3) := by rw [he_12] at hD; exact hD
    refine lv_if_eq (tgt := 12) hx hb dX11_internalResistance_5 (by decide) (fun hc => absurd hc (by decide)) (fun _ => ?_)
    refine lv_iconst (v := 0) hx hb dX11_internalResistance_8 (by decide) ?_
    refine lv_goto (tgt := 19) hx hb dX11_internalResistance_9 (by decide) ?_
    exact W.iret (v := 0) hx hb hr (fun t ht hW => ⟨⟨0, (ws_3, (1 : Int32)), rfl, ⟨hT, ⟨th1_4, trivial, (Or.inr ⟨hz_7, ⟨rfl, rfl⟩⟩)⟩⟩, by rw [ht]; exact hP, by rw [hAe]; exact hD⟩, hS.F ht⟩) hS.2.2 dX11_internalResistance_19
def q_X11_warnings (f : Nat → Int32) (G : Nat → Int32) (p1 : Int32) (r : Int32) (th1 : Int32) : Prop := (∃ (th1_4 : Int32), True ∧ ((((0 ≤ p1.toInt ∧ p1.toInt < (G 9).toInt) ∧ th1_4 = 0) ∧ (r = (rf_of f p1 36) ∧ th1 = 0)) ∨ ((¬ (0 ≤ p1.toInt ∧ p1.toInt < (G 9).toInt) ∧ th1_4 = 1) ∧ (r = 0 ∧ th1 = 1))))
set_option maxRecDepth 100000 in
set_option maxHeartbeats 4000000 in
theorem m_X11_warnings (l : Launch) (D : va_G) (ct : Nat → ClassId) (S : ty_S) (ws : va_W) (ph : va_W → Prop) (xx : Nat → Nat → Nat → Prop) (mo : Nat) (mw : Nat) (ma : Nat) (mf : Nat) (m0 : Nat) (m1 : Nat) (mu : Nat) (mv : Nat) (u0 : Nat) (u1 : Nat) (iz : Nat) (mb : Nat) (th : Int32) (mn : Int32) (mpt : Int32) (mbg : Int32) (mwr : Int32) (mwk : Int32) (mlf : Int32) (men : Int32) (f : Nat → Int32) (G : Nat → Int32) (cx : Int) (p1 : Int32) (sz : Nat) (hT : ty_V ct S ph ws) (hph : ty_C ph xx) (hy1 : ty_y1 xx) (hR : rf_R G cx f) : Met l yX11_warnings (ws_ yX11_warnings cX11_warnings 2 (some .int)) ({ frames := 2, cells := 0, slots := 0, locals := 46 } : Room) (va_Pc [.ref mo, .int p1] (cmP D ct sz ([(rf_MO mo mw ma mf m0 m1 mu mv u0 u1 iz th mb mn mpt mbg mwr mwk mlf men), (rf_RW ct 0 mw 958 f)] ++ ws))) (va_Qi (fun (r : Int32) (u : va_W × Int32) => match u with | (u9, th1) => ty_V ct S ph u9 ∧ (q_X11_warnings f G p1 r th1)) (cmB D ([(rf_MO mo mw ma mf m0 m1 mu mv u0 u1 iz th mb mn mpt mbg mwr mwk mlf men), (rf_RW ct 0 mw 958 f)] ++ ws) sz (fun (u : va_W × Int32) => match u with | (u9, th1) => ([(rf_MO mo mw ma mf m0 m1 mu mv u0 u1 iz th1 mb mn mpt mbg mwr mwk mlf men), (rf_RW ct 0 mw 958 f)] ++ u9))) (va_A ([(rf_MO mo mw ma mf m0 m1 mu mv u0 u1 iz th mb mn mpt mbg mwr mwk mlf men), (rf_RW ct 0 mw 958 f)] ++ ws) sz)) 0 0 (va_A ([(rf_MO mo mw ma mf m0 m1 mu mv u0 u1 iz th mb mn mpt mbg mwr mwk mlf men), (rf_RW ct 0 mw 958 f)] ++ ws) sz) := by
  refine Met.ofW (cc := cX11_warnings) (maxL := 2) (ret := (some .int)) (by decide) rfl ?_
  intro p e s m args below meth c s₁ B hml hv
  obtain ⟨rfl, hsz, hP, hK, hD0, hX⟩ := hv
  have hx := B.exec
  have hb := B.bytes
  have hr := B.returns
  have hts := ws_all (atoms_spec (ws := ws_ yX11_warnings cX11_warnings 2 (some .int)) B.pre)
  have hown : s.vm.findClass RX11 = some m.cls := findClass_of_methodNamed B.named
  have hlocks := B.notSynchronized
  subst hsz
  have hD := hD0.self (sz := s.heap.size)
  generalize hAe : va_A ([(rf_MO mo mw ma mf m0 m1 mu mv u0 u1 iz th mb mn mpt mbg mwr mwk mlf men), (rf_RW ct 0 mw 958 f)] ++ ws) s.heap.size = A at hD hX ⊢
  have hA : ∀ q : Nat, s.heap.size ≤ q → A q := fun q h => by rw [← hAe]; exact Or.inr h
  have hS : va_S A s.heap s.heap [] := va_S.rf
  have hl := lv_entry ([.ref mo, .int p1]) (n := 2) (Nat.le_of_ble_eq_true rfl)
  rw [lg_entry_eq]
  generalize (lg_sl ([.ref mo, .int p1]) ++ List.replicate (2 - (lg_sl ([.ref mo, .int p1])).length) Slot.unset).toArray = ls at hl ⊢
  have hl : lv_has ls 2 [(0, .ref mo), (1, .int p1)] := hl
  refine lv_aload_n hx hb dX11_warnings_0 rfl (lv_at hl 0 rfl) ?_
  refine lv_iload_n hx hb dX11_warnings_1 rfl (lv_at hl 1 rfl) ?_
  obtain ⟨hP, hD⟩ := ty_ipPD (E1 := []) (E2 := [(rf_MO mo mw ma mf m0 m1 mu mv u0 u1 iz th mb mn mpt mbg mwr mwk mlf men), (rf_RW ct 0 mw 958 f)]) hP hD rfl ty_mva
  refine ty_Ki hP hD hS hA (va_runV (As := [.int p1]) (rest := []) ⟨hx, hb, hml, hown, hts⟩ (m_X11_noChannel l D ct S ws ph xx mo mw ma mf m0 m1 mu mv u0 u1 iz mb th mn mpt mbg mwr mwk mlf men f G cx p1 _ hT hph hy1 hR) (cm_V 1 hts kc_X11_noChannel ki_RX11 kl_RX11_344 kv_X11_noChannel kx_X11_noChannel kd_X11_noChannel ⟨Nat.le_of_ble_eq_true rfl, Nat.le_of_ble_eq_true rfl⟩) (ty_preE (ci := 11) (q0 := 0) hP hK hD hS hA hX rfl rfl) rfl rfl hl.1 rfl (lv_room (Nat.le_of_ble_eq_true rfl)) dX11_warnings_2 ⟨Nat.le_of_ble_eq_true rfl, Nat.le_of_ble_eq_true rfl⟩) (fun r_1 u H locs hw_2 hP hD hS => ?_)
  obtain ⟨ws_3, th1_4⟩ := u
  obtain ⟨hT, hp_5⟩ := hw_2
  have hp_5 : ((r_1 = 0 ∧ (0 ≤ p1.toInt ∧ p1.toInt < (G 9).toInt) ∧ th1_4 = 0) ∨ (r_1 = 1 ∧ ¬ (0 ≤ p1.toInt ∧ p1.toInt < (G 9).toInt) ∧ th1_4 = 1)) := hp_5
  obtain ⟨hP, hD⟩ := ty_shPD (w2 := ([(rf_MO mo mw ma mf m0 m1 mu mv u0 u1 iz th1_4 mb mn mpt mbg mwr mwk mlf men), (rf_RW ct 0 mw 958 f)] ++ ws_3)) hP hD rfl
  rcases hp_5 with ⟨rfl, hz_6⟩ | ⟨rfl, hz_7⟩
  · have he_8 := hz_6.2
    have hP : va_P D vwCl ([(rf_MO mo mw ma mf m0 m1 mu mv u0 u1 iz (0) mb mn mpt mbg mwr mwk mlf men), (rf_RW ct 0 mw 958 f)] ++ ws_3) H := by rw [he_8] at hP; exact hP
    have hD : va_D A ([(rf_MO mo mw ma mf m0 m1 mu mv u0 u1 iz (0) mb mn mpt mbg mwr mwk mlf men), (rf_RW ct 0 mw 958 f)] ++ ws_3) := by rw [he_8] at hD; exact hD
    refine lv_if_eq (tgt := 12) hx hb dX11_warnings_5 (by decide) (fun _ => ?_) (fun hc => absurd (by decide) hc)
    refine lv_aload_n hx hb dX11_warnings_12 rfl (lv_at hl 0 rfl) ?_
    refine lv_iload_n hx hb dX11_warnings_13 rfl (lv_at hl 1 rfl) ?_
    refine lv_bipush (v := 36) hx hb dX11_warnings_14 (by decide) ?_
    obtain ⟨hP, hD⟩ := ty_ipPD (E1 := []) (E2 := [(rf_MO mo mw ma mf m0 m1 mu mv u0 u1 iz (0) mb mn mpt mbg mwr mwk mlf men), (rf_RW ct 0 mw 958 f)]) hP hD rfl ty_mva
    refine ty_Ki hP hD hS hA (va_runV (As := [.int p1, .int 36]) (rest := []) ⟨hx, hb, hml, hown, hts⟩ (m_of_36 l D ct S ws_3 ph xx mo mw ma mf m0 m1 mu mv u0 u1 iz mb (0 : Int32) mn mpt mbg mwr mwk mlf men f G cx p1 _ hT hph hy1 hR hz_6.1) (cm_V 2 hts kc_X11_of ki_RX11 kl_RX11_209 kv_X11_of kx_X11_of kd_X11_of ⟨Nat.le_of_ble_eq_true rfl, Nat.le_of_ble_eq_true rfl⟩) (ty_preE (ci := 11) (q0 := 0) hP hK hD hS hA hX rfl rfl) rfl rfl hl.1 rfl (lv_room (Nat.le_of_ble_eq_true rfl)) dX11_warnings_16 ⟨Nat.le_of_ble_eq_true rfl, Nat.le_of_ble_eq_true rfl⟩) (fun r_9 u H locs hw_10 hP hD hS => ?_)
    obtain ⟨ws_11, rfl⟩ : ∃ z, z = u := ⟨_, rfl⟩
    obtain ⟨hT, rfl⟩ := hw_10
    obtain ⟨hP, hD⟩ := ty_shPD (w2 := ([(rf_MO mo mw ma mf m0 m1 mu mv u0 u1 iz (0) mb mn mpt mbg mwr mwk mlf men), (rf_RW ct 0 mw 958 f)] ++ ws_11)) hP hD rfl
    exact W.iret (v := (rf_of f p1 36)) hx hb hr (fun t ht hW => ⟨⟨(rf_of f p1 36), (ws_11, (0 : Int32)), rfl, ⟨hT, ⟨th1_4, trivial, (Or.inl ⟨hz_6, ⟨rfl, rfl⟩⟩)⟩⟩, by rw [ht]; exact hP, by rw [hAe]; exact hD⟩, hS.F ht⟩) hS.2.2 dX11_warnings_19
  · have he_12 := hz_7.2
    have hP : va_P D vwCl ([(rf_MO mo mw ma mf m0 m1 mu mv u0 u1 iz (1) mb mn mpt mbg mwr mwk mlf men), (rf_RW ct 0 mw 958 f)] ++ ws_3) H := by rw [he_12] at hP; exact hP
    have hD : va_D A ([(rf_MO mo mw ma mf m0 m1 mu mv u0 u1 iz (1) mb mn mpt mbg mwr mwk mlf men), (rf_RW ct 0 mw 958 f)] ++ ws_3) := by rw [he_12] at hD; exact hD
    refine lv_if_eq (tgt := 12) hx hb dX11_warnings_5 (by decide) (fun hc => absurd hc (by decide)) (fun _ => ?_)
    refine lv_iconst (v := 0) hx hb dX11_warnings_8 (by decide) ?_
    refine lv_goto (tgt := 19) hx hb dX11_warnings_9 (by decide) ?_
    exact W.iret (v := 0) hx hb hr (fun t ht hW => ⟨⟨0, (ws_3, (1 : Int32)), rfl, ⟨hT, ⟨th1_4, trivial, (Or.inr ⟨hz_7, ⟨rfl, rfl⟩⟩)⟩⟩, by rw [ht]; exact hP, by rw [hAe]; exact hD⟩, hS.F ht⟩) hS.2.2 dX11_warnings_19
def q_X11_warned (f : Nat → Int32) (G : Nat → Int32) (p1 : Int32) (r : Int32) (th1 : Int32) : Prop := (∃ (th1_4 : Int32), True ∧ ((((0 ≤ p1.toInt ∧ p1.toInt < (G 9).toInt) ∧ th1_4 = 0) ∧ (r = (rf_of f p1 37) ∧ th1 = 0)) ∨ ((¬ (0 ≤ p1.toInt ∧ p1.toInt < (G 9).toInt) ∧ th1_4 = 1) ∧ (r = 0 ∧ th1 = 1))))
set_option maxRecDepth 100000 in
set_option maxHeartbeats 4000000 in
theorem m_X11_warned (l : Launch) (D : va_G) (ct : Nat → ClassId) (S : ty_S) (ws : va_W) (ph : va_W → Prop) (xx : Nat → Nat → Nat → Prop) (mo : Nat) (mw : Nat) (ma : Nat) (mf : Nat) (m0 : Nat) (m1 : Nat) (mu : Nat) (mv : Nat) (u0 : Nat) (u1 : Nat) (iz : Nat) (mb : Nat) (th : Int32) (mn : Int32) (mpt : Int32) (mbg : Int32) (mwr : Int32) (mwk : Int32) (mlf : Int32) (men : Int32) (f : Nat → Int32) (G : Nat → Int32) (cx : Int) (p1 : Int32) (sz : Nat) (hT : ty_V ct S ph ws) (hph : ty_C ph xx) (hy1 : ty_y1 xx) (hR : rf_R G cx f) : Met l yX11_warned (ws_ yX11_warned cX11_warned 2 (some .int)) ({ frames := 2, cells := 0, slots := 0, locals := 46 } : Room) (va_Pc [.ref mo, .int p1] (cmP D ct sz ([(rf_MO mo mw ma mf m0 m1 mu mv u0 u1 iz th mb mn mpt mbg mwr mwk mlf men), (rf_RW ct 0 mw 958 f)] ++ ws))) (va_Qi (fun (r : Int32) (u : va_W × Int32) => match u with | (u9, th1) => ty_V ct S ph u9 ∧ (q_X11_warned f G p1 r th1)) (cmB D ([(rf_MO mo mw ma mf m0 m1 mu mv u0 u1 iz th mb mn mpt mbg mwr mwk mlf men), (rf_RW ct 0 mw 958 f)] ++ ws) sz (fun (u : va_W × Int32) => match u with | (u9, th1) => ([(rf_MO mo mw ma mf m0 m1 mu mv u0 u1 iz th1 mb mn mpt mbg mwr mwk mlf men), (rf_RW ct 0 mw 958 f)] ++ u9))) (va_A ([(rf_MO mo mw ma mf m0 m1 mu mv u0 u1 iz th mb mn mpt mbg mwr mwk mlf men), (rf_RW ct 0 mw 958 f)] ++ ws) sz)) 0 0 (va_A ([(rf_MO mo mw ma mf m0 m1 mu mv u0 u1 iz th mb mn mpt mbg mwr mwk mlf men), (rf_RW ct 0 mw 958 f)] ++ ws) sz) := by
  refine Met.ofW (cc := cX11_warned) (maxL := 2) (ret := (some .int)) (by decide) rfl ?_
  intro p e s m args below meth c s₁ B hml hv
  obtain ⟨rfl, hsz, hP, hK, hD0, hX⟩ := hv
  have hx := B.exec
  have hb := B.bytes
  have hr := B.returns
  have hts := ws_all (atoms_spec (ws := ws_ yX11_warned cX11_warned 2 (some .int)) B.pre)
  have hown : s.vm.findClass RX11 = some m.cls := findClass_of_methodNamed B.named
  have hlocks := B.notSynchronized
  subst hsz
  have hD := hD0.self (sz := s.heap.size)
  generalize hAe : va_A ([(rf_MO mo mw ma mf m0 m1 mu mv u0 u1 iz th mb mn mpt mbg mwr mwk mlf men), (rf_RW ct 0 mw 958 f)] ++ ws) s.heap.size = A at hD hX ⊢
  have hA : ∀ q : Nat, s.heap.size ≤ q → A q := fun q h => by rw [← hAe]; exact Or.inr h
  have hS : va_S A s.heap s.heap [] := va_S.rf
  have hl := lv_entry ([.ref mo, .int p1]) (n := 2) (Nat.le_of_ble_eq_true rfl)
  rw [lg_entry_eq]
  generalize (lg_sl ([.ref mo, .int p1]) ++ List.replicate (2 - (lg_sl ([.ref mo, .int p1])).length) Slot.unset).toArray = ls at hl ⊢
  have hl : lv_has ls 2 [(0, .ref mo), (1, .int p1)] := hl
  refine lv_aload_n hx hb dX11_warned_0 rfl (lv_at hl 0 rfl) ?_
  refine lv_iload_n hx hb dX11_warned_1 rfl (lv_at hl 1 rfl) ?_
  obtain ⟨hP, hD⟩ := ty_ipPD (E1 := []) (E2 := [(rf_MO mo mw ma mf m0 m1 mu mv u0 u1 iz th mb mn mpt mbg mwr mwk mlf men), (rf_RW ct 0 mw 958 f)]) hP hD rfl ty_mva
  refine ty_Ki hP hD hS hA (va_runV (As := [.int p1]) (rest := []) ⟨hx, hb, hml, hown, hts⟩ (m_X11_noChannel l D ct S ws ph xx mo mw ma mf m0 m1 mu mv u0 u1 iz mb th mn mpt mbg mwr mwk mlf men f G cx p1 _ hT hph hy1 hR) (cm_V 1 hts kc_X11_noChannel ki_RX11 kl_RX11_344 kv_X11_noChannel kx_X11_noChannel kd_X11_noChannel ⟨Nat.le_of_ble_eq_true rfl, Nat.le_of_ble_eq_true rfl⟩) (ty_preE (ci := 11) (q0 := 0) hP hK hD hS hA hX rfl rfl) rfl rfl hl.1 rfl (lv_room (Nat.le_of_ble_eq_true rfl)) dX11_warned_2 ⟨Nat.le_of_ble_eq_true rfl, Nat.le_of_ble_eq_true rfl⟩) (fun r_1 u H locs hw_2 hP hD hS => ?_)
  obtain ⟨ws_3, th1_4⟩ := u
  obtain ⟨hT, hp_5⟩ := hw_2
  have hp_5 : ((r_1 = 0 ∧ (0 ≤ p1.toInt ∧ p1.toInt < (G 9).toInt) ∧ th1_4 = 0) ∨ (r_1 = 1 ∧ ¬ (0 ≤ p1.toInt ∧ p1.toInt < (G 9).toInt) ∧ th1_4 = 1)) := hp_5
  obtain ⟨hP, hD⟩ := ty_shPD (w2 := ([(rf_MO mo mw ma mf m0 m1 mu mv u0 u1 iz th1_4 mb mn mpt mbg mwr mwk mlf men), (rf_RW ct 0 mw 958 f)] ++ ws_3)) hP hD rfl
  rcases hp_5 with ⟨rfl, hz_6⟩ | ⟨rfl, hz_7⟩
  · have he_8 := hz_6.2
    have hP : va_P D vwCl ([(rf_MO mo mw ma mf m0 m1 mu mv u0 u1 iz (0) mb mn mpt mbg mwr mwk mlf men), (rf_RW ct 0 mw 958 f)] ++ ws_3) H := by rw [he_8] at hP; exact hP
    have hD : va_D A ([(rf_MO mo mw ma mf m0 m1 mu mv u0 u1 iz (0) mb mn mpt mbg mwr mwk mlf men), (rf_RW ct 0 mw 958 f)] ++ ws_3) := by rw [he_8] at hD; exact hD
    refine lv_if_eq (tgt := 12) hx hb dX11_warned_5 (by decide) (fun _ => ?_) (fun hc => absurd (by decide) hc)
    refine lv_aload_n hx hb dX11_warned_12 rfl (lv_at hl 0 rfl) ?_
    refine lv_iload_n hx hb dX11_warned_13 rfl (lv_at hl 1 rfl) ?_
    refine lv_bipush (v := 37) hx hb dX11_warned_14 (by decide) ?_
    obtain ⟨hP, hD⟩ := ty_ipPD (E1 := []) (E2 := [(rf_MO mo mw ma mf m0 m1 mu mv u0 u1 iz (0) mb mn mpt mbg mwr mwk mlf men), (rf_RW ct 0 mw 958 f)]) hP hD rfl ty_mva
    refine ty_Ki hP hD hS hA (va_runV (As := [.int p1, .int 37]) (rest := []) ⟨hx, hb, hml, hown, hts⟩ (m_of_37 l D ct S ws_3 ph xx mo mw ma mf m0 m1 mu mv u0 u1 iz mb (0 : Int32) mn mpt mbg mwr mwk mlf men f G cx p1 _ hT hph hy1 hR hz_6.1) (cm_V 2 hts kc_X11_of ki_RX11 kl_RX11_209 kv_X11_of kx_X11_of kd_X11_of ⟨Nat.le_of_ble_eq_true rfl, Nat.le_of_ble_eq_true rfl⟩) (ty_preE (ci := 11) (q0 := 0) hP hK hD hS hA hX rfl rfl) rfl rfl hl.1 rfl (lv_room (Nat.le_of_ble_eq_true rfl)) dX11_warned_16 ⟨Nat.le_of_ble_eq_true rfl, Nat.le_of_ble_eq_true rfl⟩) (fun r_9 u H locs hw_10 hP hD hS => ?_)
    obtain ⟨ws_11, rfl⟩ : ∃ z, z = u := ⟨_, rfl⟩
    obtain ⟨hT, rfl⟩ := hw_10
    obtain ⟨hP, hD⟩ := ty_shPD (w2 := ([(rf_MO mo mw ma mf m0 m1 mu mv u0 u1 iz (0) mb mn mpt mbg mwr mwk mlf men), (rf_RW ct 0 mw 958 f)] ++ ws_11)) hP hD rfl
    exact W.iret (v := (rf_of f p1 37)) hx hb hr (fun t ht hW => ⟨⟨(rf_of f p1 37), (ws_11, (0 : Int32)), rfl, ⟨hT, ⟨th1_4, trivial, (Or.inl ⟨hz_6, ⟨rfl, rfl⟩⟩)⟩⟩, by rw [ht]; exact hP, by rw [hAe]; exact hD⟩, hS.F ht⟩) hS.2.2 dX11_warned_19
  · have he_12 := hz_7.2
    have hP : va_P D vwCl ([(rf_MO mo mw ma mf m0 m1 mu mv u0 u1 iz (1) mb mn mpt mbg mwr mwk mlf men), (rf_RW ct 0 mw 958 f)] ++ ws_3) H := by rw [he_12] at hP; exact hP
    have hD : va_D A ([(rf_MO mo mw ma mf m0 m1 mu mv u0 u1 iz (1) mb mn mpt mbg mwr mwk mlf men), (rf_RW ct 0 mw 958 f)] ++ ws_3) := by rw [he_12] at hD; exact hD
    refine lv_if_eq (tgt := 12) hx hb dX11_warned_5 (by decide) (fun hc => absurd hc (by decide)) (fun _ => ?_)
    refine lv_iconst (v := 0) hx hb dX11_warned_8 (by decide) ?_
    refine lv_goto (tgt := 19) hx hb dX11_warned_9 (by decide) ?_
    exact W.iret (v := 0) hx hb hr (fun t ht hW => ⟨⟨0, (ws_3, (1 : Int32)), rfl, ⟨hT, ⟨th1_4, trivial, (Or.inr ⟨hz_7, ⟨rfl, rfl⟩⟩)⟩⟩, by rw [ht]; exact hP, by rw [hAe]; exact hD⟩, hS.F ht⟩) hS.2.2 dX11_warned_19
def q_X11_filling (f : Nat → Int32) (G : Nat → Int32) (p1 : Int32) (r : Int32) (th1 : Int32) : Prop := (∃ (th1_4 : Int32), True ∧ ((((0 ≤ p1.toInt ∧ p1.toInt < (G 9).toInt) ∧ th1_4 = 0) ∧ (∃ (r_9 : Int32), (q_X11_filled f p1 r_9) ∧ (r = r_9 ∧ th1 = 0))) ∨ ((¬ (0 ≤ p1.toInt ∧ p1.toInt < (G 9).toInt) ∧ th1_4 = 1) ∧ (r = 0 ∧ th1 = 1))))
set_option maxRecDepth 100000 in
set_option maxHeartbeats 4000000 in
theorem m_X11_filling (l : Launch) (D : va_G) (ct : Nat → ClassId) (S : ty_S) (ws : va_W) (ph : va_W → Prop) (xx : Nat → Nat → Nat → Prop) (mo : Nat) (mw : Nat) (ma : Nat) (mf : Nat) (m0 : Nat) (m1 : Nat) (mu : Nat) (mv : Nat) (u0 : Nat) (u1 : Nat) (iz : Nat) (mb : Nat) (th : Int32) (mn : Int32) (mpt : Int32) (mbg : Int32) (mwr : Int32) (mwk : Int32) (mlf : Int32) (men : Int32) (f : Nat → Int32) (G : Nat → Int32) (cx : Int) (p1 : Int32) (sz : Nat) (hT : ty_V ct S ph ws) (hph : ty_C ph xx) (hy1 : ty_y1 xx) (hR : rf_R G cx f) : Met l yX11_filling (ws_ yX11_filling cX11_filling 2 (some .int)) ({ frames := 2, cells := 0, slots := 0, locals := 46 } : Room) (va_Pc [.ref mo, .int p1] (cmP D ct sz ([(rf_MO mo mw ma mf m0 m1 mu mv u0 u1 iz th mb mn mpt mbg mwr mwk mlf men), (rf_RW ct 0 mw 958 f)] ++ ws))) (va_Qi (fun (r : Int32) (u : va_W × Int32) => match u with | (u9, th1) => ty_V ct S ph u9 ∧ (q_X11_filling f G p1 r th1)) (cmB D ([(rf_MO mo mw ma mf m0 m1 mu mv u0 u1 iz th mb mn mpt mbg mwr mwk mlf men), (rf_RW ct 0 mw 958 f)] ++ ws) sz (fun (u : va_W × Int32) => match u with | (u9, th1) => ([(rf_MO mo mw ma mf m0 m1 mu mv u0 u1 iz th1 mb mn mpt mbg mwr mwk mlf men), (rf_RW ct 0 mw 958 f)] ++ u9))) (va_A ([(rf_MO mo mw ma mf m0 m1 mu mv u0 u1 iz th mb mn mpt mbg mwr mwk mlf men), (rf_RW ct 0 mw 958 f)] ++ ws) sz)) 0 0 (va_A ([(rf_MO mo mw ma mf m0 m1 mu mv u0 u1 iz th mb mn mpt mbg mwr mwk mlf men), (rf_RW ct 0 mw 958 f)] ++ ws) sz) := by
  refine Met.ofW (cc := cX11_filling) (maxL := 2) (ret := (some .int)) (by decide) rfl ?_
  intro p e s m args below meth c s₁ B hml hv
  obtain ⟨rfl, hsz, hP, hK, hD0, hX⟩ := hv
  have hx := B.exec
  have hb := B.bytes
  have hr := B.returns
  have hts := ws_all (atoms_spec (ws := ws_ yX11_filling cX11_filling 2 (some .int)) B.pre)
  have hown : s.vm.findClass RX11 = some m.cls := findClass_of_methodNamed B.named
  have hlocks := B.notSynchronized
  subst hsz
  have hD := hD0.self (sz := s.heap.size)
  generalize hAe : va_A ([(rf_MO mo mw ma mf m0 m1 mu mv u0 u1 iz th mb mn mpt mbg mwr mwk mlf men), (rf_RW ct 0 mw 958 f)] ++ ws) s.heap.size = A at hD hX ⊢
  have hA : ∀ q : Nat, s.heap.size ≤ q → A q := fun q h => by rw [← hAe]; exact Or.inr h
  have hS : va_S A s.heap s.heap [] := va_S.rf
  have hl := lv_entry ([.ref mo, .int p1]) (n := 2) (Nat.le_of_ble_eq_true rfl)
  rw [lg_entry_eq]
  generalize (lg_sl ([.ref mo, .int p1]) ++ List.replicate (2 - (lg_sl ([.ref mo, .int p1])).length) Slot.unset).toArray = ls at hl ⊢
  have hl : lv_has ls 2 [(0, .ref mo), (1, .int p1)] := hl
  refine lv_aload_n hx hb dX11_filling_0 rfl (lv_at hl 0 rfl) ?_
  refine lv_iload_n hx hb dX11_filling_1 rfl (lv_at hl 1 rfl) ?_
  obtain ⟨hP, hD⟩ := ty_ipPD (E1 := []) (E2 := [(rf_MO mo mw ma mf m0 m1 mu mv u0 u1 iz th mb mn mpt mbg mwr mwk mlf men), (rf_RW ct 0 mw 958 f)]) hP hD rfl ty_mva
  refine ty_Ki hP hD hS hA (va_runV (As := [.int p1]) (rest := []) ⟨hx, hb, hml, hown, hts⟩ (m_X11_noChannel l D ct S ws ph xx mo mw ma mf m0 m1 mu mv u0 u1 iz mb th mn mpt mbg mwr mwk mlf men f G cx p1 _ hT hph hy1 hR) (cm_V 1 hts kc_X11_noChannel ki_RX11 kl_RX11_344 kv_X11_noChannel kx_X11_noChannel kd_X11_noChannel ⟨Nat.le_of_ble_eq_true rfl, Nat.le_of_ble_eq_true rfl⟩) (ty_preE (ci := 11) (q0 := 0) hP hK hD hS hA hX rfl rfl) rfl rfl hl.1 rfl (lv_room (Nat.le_of_ble_eq_true rfl)) dX11_filling_2 ⟨Nat.le_of_ble_eq_true rfl, Nat.le_of_ble_eq_true rfl⟩) (fun r_1 u H locs hw_2 hP hD hS => ?_)
  obtain ⟨ws_3, th1_4⟩ := u
  obtain ⟨hT, hp_5⟩ := hw_2
  have hp_5 : ((r_1 = 0 ∧ (0 ≤ p1.toInt ∧ p1.toInt < (G 9).toInt) ∧ th1_4 = 0) ∨ (r_1 = 1 ∧ ¬ (0 ≤ p1.toInt ∧ p1.toInt < (G 9).toInt) ∧ th1_4 = 1)) := hp_5
  obtain ⟨hP, hD⟩ := ty_shPD (w2 := ([(rf_MO mo mw ma mf m0 m1 mu mv u0 u1 iz th1_4 mb mn mpt mbg mwr mwk mlf men), (rf_RW ct 0 mw 958 f)] ++ ws_3)) hP hD rfl
  rcases hp_5 with ⟨rfl, hz_6⟩ | ⟨rfl, hz_7⟩
  · have he_8 := hz_6.2
    have hP : va_P D vwCl ([(rf_MO mo mw ma mf m0 m1 mu mv u0 u1 iz (0) mb mn mpt mbg mwr mwk mlf men), (rf_RW ct 0 mw 958 f)] ++ ws_3) H := by rw [he_8] at hP; exact hP
    have hD : va_D A ([(rf_MO mo mw ma mf m0 m1 mu mv u0 u1 iz (0) mb mn mpt mbg mwr mwk mlf men), (rf_RW ct 0 mw 958 f)] ++ ws_3) := by rw [he_8] at hD; exact hD
    refine lv_if_eq (tgt := 12) hx hb dX11_filling_5 (by decide) (fun _ => ?_) (fun hc => absurd (by decide) hc)
    refine lv_aload_n hx hb dX11_filling_12 rfl (lv_at hl 0 rfl) ?_
    refine lv_iload_n hx hb dX11_filling_13 rfl (lv_at hl 1 rfl) ?_
    obtain ⟨hP, hD⟩ := ty_ipPD (E1 := []) (E2 := [(rf_MO mo mw ma mf m0 m1 mu mv u0 u1 iz (0) mb mn mpt mbg mwr mwk mlf men), (rf_RW ct 0 mw 958 f)]) hP hD rfl ty_mva
    refine ty_Ki hP hD hS hA (va_runV (As := [.int p1]) (rest := []) ⟨hx, hb, hml, hown, hts⟩ (m_X11_filled l D ct S ws_3 ph xx mo mw ma mf m0 m1 mu mv u0 u1 iz mb (0 : Int32) mn mpt mbg mwr mwk mlf men f G cx p1 _ hT hph hy1 hR hz_6.1) (cm_V 1 hts kc_X11_filled ki_RX11 kl_RX11_314 kv_X11_filled kx_X11_filled kd_X11_filled ⟨Nat.le_of_ble_eq_true rfl, Nat.le_of_ble_eq_true rfl⟩) (ty_preE (ci := 11) (q0 := 0) hP hK hD hS hA hX rfl rfl) rfl rfl hl.1 rfl (lv_room (Nat.le_of_ble_eq_true rfl)) dX11_filling_14 ⟨Nat.le_of_ble_eq_true rfl, Nat.le_of_ble_eq_true rfl⟩) (fun r_9 u H locs hw_10 hP hD hS => ?_)
    obtain ⟨ws_11, rfl⟩ : ∃ z, z = u := ⟨_, rfl⟩
    obtain ⟨hT, hp_12⟩ := hw_10
    have hp_12 : (q_X11_filled f p1 r_9) ∧ 0 ≤ r_9.toInt := hp_12
    obtain ⟨hq_13, hp_14⟩ := hp_12
    obtain ⟨hP, hD⟩ := ty_shPD (w2 := ([(rf_MO mo mw ma mf m0 m1 mu mv u0 u1 iz (0) mb mn mpt mbg mwr mwk mlf men), (rf_RW ct 0 mw 958 f)] ++ ws_11)) hP hD rfl
    exact W.iret (v := r_9) hx hb hr (fun t ht hW => ⟨⟨r_9, (ws_11, (0 : Int32)), rfl, ⟨hT, ⟨th1_4, trivial, (Or.inl ⟨hz_6, ⟨r_9, hq_13, ⟨rfl, rfl⟩⟩⟩)⟩⟩, by rw [ht]; exact hP, by rw [hAe]; exact hD⟩, hS.F ht⟩) hS.2.2 dX11_filling_17
  · have he_15 := hz_7.2
    have hP : va_P D vwCl ([(rf_MO mo mw ma mf m0 m1 mu mv u0 u1 iz (1) mb mn mpt mbg mwr mwk mlf men), (rf_RW ct 0 mw 958 f)] ++ ws_3) H := by rw [he_15] at hP; exact hP
    have hD : va_D A ([(rf_MO mo mw ma mf m0 m1 mu mv u0 u1 iz (1) mb mn mpt mbg mwr mwk mlf men), (rf_RW ct 0 mw 958 f)] ++ ws_3) := by rw [he_15] at hD; exact hD
    refine lv_if_eq (tgt := 12) hx hb dX11_filling_5 (by decide) (fun hc => absurd hc (by decide)) (fun _ => ?_)
    refine lv_iconst (v := 0) hx hb dX11_filling_8 (by decide) ?_
    refine lv_goto (tgt := 17) hx hb dX11_filling_9 (by decide) ?_
    exact W.iret (v := 0) hx hb hr (fun t ht hW => ⟨⟨0, (ws_3, (1 : Int32)), rfl, ⟨hT, ⟨th1_4, trivial, (Or.inr ⟨hz_7, ⟨rfl, rfl⟩⟩)⟩⟩, by rw [ht]; exact hP, by rw [hAe]; exact hD⟩, hS.F ht⟩) hS.2.2 dX11_filling_17
def q_X11_measuredRest (f : Nat → Int32) (G : Nat → Int32) (p1 : Int32) (r : Int32) (th1 : Int32) : Prop := (∃ (th1_4 : Int32), True ∧ ((((0 ≤ p1.toInt ∧ p1.toInt < (G 9).toInt) ∧ th1_4 = 0) ∧ (r = (rf_of f p1 19) ∧ th1 = 0)) ∨ ((¬ (0 ≤ p1.toInt ∧ p1.toInt < (G 9).toInt) ∧ th1_4 = 1) ∧ (r = 0 ∧ th1 = 1))))
set_option maxRecDepth 100000 in
set_option maxHeartbeats 4000000 in
theorem m_X11_measuredRest (l : Launch) (D : va_G) (ct : Nat → ClassId) (S : ty_S) (ws : va_W) (ph : va_W → Prop) (xx : Nat → Nat → Nat → Prop) (mo : Nat) (mw : Nat) (ma : Nat) (mf : Nat) (m0 : Nat) (m1 : Nat) (mu : Nat) (mv : Nat) (u0 : Nat) (u1 : Nat) (iz : Nat) (mb : Nat) (th : Int32) (mn : Int32) (mpt : Int32) (mbg : Int32) (mwr : Int32) (mwk : Int32) (mlf : Int32) (men : Int32) (f : Nat → Int32) (G : Nat → Int32) (cx : Int) (p1 : Int32) (sz : Nat) (hT : ty_V ct S ph ws) (hph : ty_C ph xx) (hy1 : ty_y1 xx) (hR : rf_R G cx f) : Met l yX11_measuredRest (ws_ yX11_measuredRest cX11_measuredRest 2 (some .int)) ({ frames := 2, cells := 0, slots := 0, locals := 46 } : Room) (va_Pc [.ref mo, .int p1] (cmP D ct sz ([(rf_MO mo mw ma mf m0 m1 mu mv u0 u1 iz th mb mn mpt mbg mwr mwk mlf men), (rf_RW ct 0 mw 958 f)] ++ ws))) (va_Qi (fun (r : Int32) (u : va_W × Int32) => match u with | (u9, th1) => ty_V ct S ph u9 ∧ (q_X11_measuredRest f G p1 r th1)) (cmB D ([(rf_MO mo mw ma mf m0 m1 mu mv u0 u1 iz th mb mn mpt mbg mwr mwk mlf men), (rf_RW ct 0 mw 958 f)] ++ ws) sz (fun (u : va_W × Int32) => match u with | (u9, th1) => ([(rf_MO mo mw ma mf m0 m1 mu mv u0 u1 iz th1 mb mn mpt mbg mwr mwk mlf men), (rf_RW ct 0 mw 958 f)] ++ u9))) (va_A ([(rf_MO mo mw ma mf m0 m1 mu mv u0 u1 iz th mb mn mpt mbg mwr mwk mlf men), (rf_RW ct 0 mw 958 f)] ++ ws) sz)) 0 0 (va_A ([(rf_MO mo mw ma mf m0 m1 mu mv u0 u1 iz th mb mn mpt mbg mwr mwk mlf men), (rf_RW ct 0 mw 958 f)] ++ ws) sz) := by
  refine Met.ofW (cc := cX11_measuredRest) (maxL := 2) (ret := (some .int)) (by decide) rfl ?_
  intro p e s m args below meth c s₁ B hml hv
  obtain ⟨rfl, hsz, hP, hK, hD0, hX⟩ := hv
  have hx := B.exec
  have hb := B.bytes
  have hr := B.returns
  have hts := ws_all (atoms_spec (ws := ws_ yX11_measuredRest cX11_measuredRest 2 (some .int)) B.pre)
  have hown : s.vm.findClass RX11 = some m.cls := findClass_of_methodNamed B.named
  have hlocks := B.notSynchronized
  subst hsz
  have hD := hD0.self (sz := s.heap.size)
  generalize hAe : va_A ([(rf_MO mo mw ma mf m0 m1 mu mv u0 u1 iz th mb mn mpt mbg mwr mwk mlf men), (rf_RW ct 0 mw 958 f)] ++ ws) s.heap.size = A at hD hX ⊢
  have hA : ∀ q : Nat, s.heap.size ≤ q → A q := fun q h => by rw [← hAe]; exact Or.inr h
  have hS : va_S A s.heap s.heap [] := va_S.rf
  have hl := lv_entry ([.ref mo, .int p1]) (n := 2) (Nat.le_of_ble_eq_true rfl)
  rw [lg_entry_eq]
  generalize (lg_sl ([.ref mo, .int p1]) ++ List.replicate (2 - (lg_sl ([.ref mo, .int p1])).length) Slot.unset).toArray = ls at hl ⊢
  have hl : lv_has ls 2 [(0, .ref mo), (1, .int p1)] := hl
  refine lv_aload_n hx hb dX11_measuredRest_0 rfl (lv_at hl 0 rfl) ?_
  refine lv_iload_n hx hb dX11_measuredRest_1 rfl (lv_at hl 1 rfl) ?_
  obtain ⟨hP, hD⟩ := ty_ipPD (E1 := []) (E2 := [(rf_MO mo mw ma mf m0 m1 mu mv u0 u1 iz th mb mn mpt mbg mwr mwk mlf men), (rf_RW ct 0 mw 958 f)]) hP hD rfl ty_mva
  refine ty_Ki hP hD hS hA (va_runV (As := [.int p1]) (rest := []) ⟨hx, hb, hml, hown, hts⟩ (m_X11_noChannel l D ct S ws ph xx mo mw ma mf m0 m1 mu mv u0 u1 iz mb th mn mpt mbg mwr mwk mlf men f G cx p1 _ hT hph hy1 hR) (cm_V 1 hts kc_X11_noChannel ki_RX11 kl_RX11_344 kv_X11_noChannel kx_X11_noChannel kd_X11_noChannel ⟨Nat.le_of_ble_eq_true rfl, Nat.le_of_ble_eq_true rfl⟩) (ty_preE (ci := 11) (q0 := 0) hP hK hD hS hA hX rfl rfl) rfl rfl hl.1 rfl (lv_room (Nat.le_of_ble_eq_true rfl)) dX11_measuredRest_2 ⟨Nat.le_of_ble_eq_true rfl, Nat.le_of_ble_eq_true rfl⟩) (fun r_1 u H locs hw_2 hP hD hS => ?_)
  obtain ⟨ws_3, th1_4⟩ := u
  obtain ⟨hT, hp_5⟩ := hw_2
  have hp_5 : ((r_1 = 0 ∧ (0 ≤ p1.toInt ∧ p1.toInt < (G 9).toInt) ∧ th1_4 = 0) ∨ (r_1 = 1 ∧ ¬ (0 ≤ p1.toInt ∧ p1.toInt < (G 9).toInt) ∧ th1_4 = 1)) := hp_5
  obtain ⟨hP, hD⟩ := ty_shPD (w2 := ([(rf_MO mo mw ma mf m0 m1 mu mv u0 u1 iz th1_4 mb mn mpt mbg mwr mwk mlf men), (rf_RW ct 0 mw 958 f)] ++ ws_3)) hP hD rfl
  rcases hp_5 with ⟨rfl, hz_6⟩ | ⟨rfl, hz_7⟩
  · have he_8 := hz_6.2
    have hP : va_P D vwCl ([(rf_MO mo mw ma mf m0 m1 mu mv u0 u1 iz (0) mb mn mpt mbg mwr mwk mlf men), (rf_RW ct 0 mw 958 f)] ++ ws_3) H := by rw [he_8] at hP; exact hP
    have hD : va_D A ([(rf_MO mo mw ma mf m0 m1 mu mv u0 u1 iz (0) mb mn mpt mbg mwr mwk mlf men), (rf_RW ct 0 mw 958 f)] ++ ws_3) := by rw [he_8] at hD; exact hD
    refine lv_if_eq (tgt := 12) hx hb dX11_measuredRest_5 (by decide) (fun _ => ?_) (fun hc => absurd (by decide) hc)
    refine lv_aload_n hx hb dX11_measuredRest_12 rfl (lv_at hl 0 rfl) ?_
    refine lv_iload_n hx hb dX11_measuredRest_13 rfl (lv_at hl 1 rfl) ?_
    refine lv_bipush (v := 19) hx hb dX11_measuredRest_14 (by decide) ?_
    obtain ⟨hP, hD⟩ := ty_ipPD (E1 := []) (E2 := [(rf_MO mo mw ma mf m0 m1 mu mv u0 u1 iz (0) mb mn mpt mbg mwr mwk mlf men), (rf_RW ct 0 mw 958 f)]) hP hD rfl ty_mva
    refine ty_Ki hP hD hS hA (va_runV (As := [.int p1, .int 19]) (rest := []) ⟨hx, hb, hml, hown, hts⟩ (m_of_19 l D ct S ws_3 ph xx mo mw ma mf m0 m1 mu mv u0 u1 iz mb (0 : Int32) mn mpt mbg mwr mwk mlf men f G cx p1 _ hT hph hy1 hR hz_6.1) (cm_V 2 hts kc_X11_of ki_RX11 kl_RX11_209 kv_X11_of kx_X11_of kd_X11_of ⟨Nat.le_of_ble_eq_true rfl, Nat.le_of_ble_eq_true rfl⟩) (ty_preE (ci := 11) (q0 := 0) hP hK hD hS hA hX rfl rfl) rfl rfl hl.1 rfl (lv_room (Nat.le_of_ble_eq_true rfl)) dX11_measuredRest_16 ⟨Nat.le_of_ble_eq_true rfl, Nat.le_of_ble_eq_true rfl⟩) (fun r_9 u H locs hw_10 hP hD hS => ?_)
    obtain ⟨ws_11, rfl⟩ : ∃ z, z = u := ⟨_, rfl⟩
    obtain ⟨hT, rfl⟩ := hw_10
    obtain ⟨hP, hD⟩ := ty_shPD (w2 := ([(rf_MO mo mw ma mf m0 m1 mu mv u0 u1 iz (0) mb mn mpt mbg mwr mwk mlf men), (rf_RW ct 0 mw 958 f)] ++ ws_11)) hP hD rfl
    exact W.iret (v := (rf_of f p1 19)) hx hb hr (fun t ht hW => ⟨⟨(rf_of f p1 19), (ws_11, (0 : Int32)), rfl, ⟨hT, ⟨th1_4, trivial, (Or.inl ⟨hz_6, ⟨rfl, rfl⟩⟩)⟩⟩, by rw [ht]; exact hP, by rw [hAe]; exact hD⟩, hS.F ht⟩) hS.2.2 dX11_measuredRest_19
  · have he_12 := hz_7.2
    have hP : va_P D vwCl ([(rf_MO mo mw ma mf m0 m1 mu mv u0 u1 iz (1) mb mn mpt mbg mwr mwk mlf men), (rf_RW ct 0 mw 958 f)] ++ ws_3) H := by rw [he_12] at hP; exact hP
    have hD : va_D A ([(rf_MO mo mw ma mf m0 m1 mu mv u0 u1 iz (1) mb mn mpt mbg mwr mwk mlf men), (rf_RW ct 0 mw 958 f)] ++ ws_3) := by rw [he_12] at hD; exact hD
    refine lv_if_eq (tgt := 12) hx hb dX11_measuredRest_5 (by decide) (fun hc => absurd hc (by decide)) (fun _ => ?_)
    refine lv_iconst (v := 0) hx hb dX11_measuredRest_8 (by decide) ?_
    refine lv_goto (tgt := 19) hx hb dX11_measuredRest_9 (by decide) ?_
    exact W.iret (v := 0) hx hb hr (fun t ht hW => ⟨⟨0, (ws_3, (1 : Int32)), rfl, ⟨hT, ⟨th1_4, trivial, (Or.inr ⟨hz_7, ⟨rfl, rfl⟩⟩)⟩⟩, by rw [ht]; exact hP, by rw [hAe]; exact hD⟩, hS.F ht⟩) hS.2.2 dX11_measuredRest_19
def q_X11_capacityByRule (f : Nat → Int32) (G : Nat → Int32) (p1 : Int32) (r : Int32) (th1 : Int32) : Prop := (∃ (th1_4 : Int32), True ∧ ((((0 ≤ p1.toInt ∧ p1.toInt < (G 9).toInt) ∧ th1_4 = 0) ∧ (r = (rf_of f p1 20) ∧ th1 = 0)) ∨ ((¬ (0 ≤ p1.toInt ∧ p1.toInt < (G 9).toInt) ∧ th1_4 = 1) ∧ (r = 0 ∧ th1 = 1))))
set_option maxRecDepth 100000 in
set_option maxHeartbeats 4000000 in
theorem m_X11_capacityByRule (l : Launch) (D : va_G) (ct : Nat → ClassId) (S : ty_S) (ws : va_W) (ph : va_W → Prop) (xx : Nat → Nat → Nat → Prop) (mo : Nat) (mw : Nat) (ma : Nat) (mf : Nat) (m0 : Nat) (m1 : Nat) (mu : Nat) (mv : Nat) (u0 : Nat) (u1 : Nat) (iz : Nat) (mb : Nat) (th : Int32) (mn : Int32) (mpt : Int32) (mbg : Int32) (mwr : Int32) (mwk : Int32) (mlf : Int32) (men : Int32) (f : Nat → Int32) (G : Nat → Int32) (cx : Int) (p1 : Int32) (sz : Nat) (hT : ty_V ct S ph ws) (hph : ty_C ph xx) (hy1 : ty_y1 xx) (hR : rf_R G cx f) : Met l yX11_capacityByRule (ws_ yX11_capacityByRule cX11_capacityByRule 2 (some .int)) ({ frames := 2, cells := 0, slots := 0, locals := 46 } : Room) (va_Pc [.ref mo, .int p1] (cmP D ct sz ([(rf_MO mo mw ma mf m0 m1 mu mv u0 u1 iz th mb mn mpt mbg mwr mwk mlf men), (rf_RW ct 0 mw 958 f)] ++ ws))) (va_Qi (fun (r : Int32) (u : va_W × Int32) => match u with | (u9, th1) => ty_V ct S ph u9 ∧ (q_X11_capacityByRule f G p1 r th1)) (cmB D ([(rf_MO mo mw ma mf m0 m1 mu mv u0 u1 iz th mb mn mpt mbg mwr mwk mlf men), (rf_RW ct 0 mw 958 f)] ++ ws) sz (fun (u : va_W × Int32) => match u with | (u9, th1) => ([(rf_MO mo mw ma mf m0 m1 mu mv u0 u1 iz th1 mb mn mpt mbg mwr mwk mlf men), (rf_RW ct 0 mw 958 f)] ++ u9))) (va_A ([(rf_MO mo mw ma mf m0 m1 mu mv u0 u1 iz th mb mn mpt mbg mwr mwk mlf men), (rf_RW ct 0 mw 958 f)] ++ ws) sz)) 0 0 (va_A ([(rf_MO mo mw ma mf m0 m1 mu mv u0 u1 iz th mb mn mpt mbg mwr mwk mlf men), (rf_RW ct 0 mw 958 f)] ++ ws) sz) := by
  refine Met.ofW (cc := cX11_capacityByRule) (maxL := 2) (ret := (some .int)) (by decide) rfl ?_
  intro p e s m args below meth c s₁ B hml hv
  obtain ⟨rfl, hsz, hP, hK, hD0, hX⟩ := hv
  have hx := B.exec
  have hb := B.bytes
  have hr := B.returns
  have hts := ws_all (atoms_spec (ws := ws_ yX11_capacityByRule cX11_capacityByRule 2 (some .int)) B.pre)
  have hown : s.vm.findClass RX11 = some m.cls := findClass_of_methodNamed B.named
  have hlocks := B.notSynchronized
  subst hsz
  have hD := hD0.self (sz := s.heap.size)
  generalize hAe : va_A ([(rf_MO mo mw ma mf m0 m1 mu mv u0 u1 iz th mb mn mpt mbg mwr mwk mlf men), (rf_RW ct 0 mw 958 f)] ++ ws) s.heap.size = A at hD hX ⊢
  have hA : ∀ q : Nat, s.heap.size ≤ q → A q := fun q h => by rw [← hAe]; exact Or.inr h
  have hS : va_S A s.heap s.heap [] := va_S.rf
  have hl := lv_entry ([.ref mo, .int p1]) (n := 2) (Nat.le_of_ble_eq_true rfl)
  rw [lg_entry_eq]
  generalize (lg_sl ([.ref mo, .int p1]) ++ List.replicate (2 - (lg_sl ([.ref mo, .int p1])).length) Slot.unset).toArray = ls at hl ⊢
  have hl : lv_has ls 2 [(0, .ref mo), (1, .int p1)] := hl
  refine lv_aload_n hx hb dX11_capacityByRule_0 rfl (lv_at hl 0 rfl) ?_
  refine lv_iload_n hx hb dX11_capacityByRule_1 rfl (lv_at hl 1 rfl) ?_
  obtain ⟨hP, hD⟩ := ty_ipPD (E1 := []) (E2 := [(rf_MO mo mw ma mf m0 m1 mu mv u0 u1 iz th mb mn mpt mbg mwr mwk mlf men), (rf_RW ct 0 mw 958 f)]) hP hD rfl ty_mva
  refine ty_Ki hP hD hS hA (va_runV (As := [.int p1]) (rest := []) ⟨hx, hb, hml, hown, hts⟩ (m_X11_noChannel l D ct S ws ph xx mo mw ma mf m0 m1 mu mv u0 u1 iz mb th mn mpt mbg mwr mwk mlf men f G cx p1 _ hT hph hy1 hR) (cm_V 1 hts kc_X11_noChannel ki_RX11 kl_RX11_344 kv_X11_noChannel kx_X11_noChannel kd_X11_noChannel ⟨Nat.le_of_ble_eq_true rfl, Nat.le_of_ble_eq_true rfl⟩) (ty_preE (ci := 11) (q0 := 0) hP hK hD hS hA hX rfl rfl) rfl rfl hl.1 rfl (lv_room (Nat.le_of_ble_eq_true rfl)) dX11_capacityByRule_2 ⟨Nat.le_of_ble_eq_true rfl, Nat.le_of_ble_eq_true rfl⟩) (fun r_1 u H locs hw_2 hP hD hS => ?_)
  obtain ⟨ws_3, th1_4⟩ := u
  obtain ⟨hT, hp_5⟩ := hw_2
  have hp_5 : ((r_1 = 0 ∧ (0 ≤ p1.toInt ∧ p1.toInt < (G 9).toInt) ∧ th1_4 = 0) ∨ (r_1 = 1 ∧ ¬ (0 ≤ p1.toInt ∧ p1.toInt < (G 9).toInt) ∧ th1_4 = 1)) := hp_5
  obtain ⟨hP, hD⟩ := ty_shPD (w2 := ([(rf_MO mo mw ma mf m0 m1 mu mv u0 u1 iz th1_4 mb mn mpt mbg mwr mwk mlf men), (rf_RW ct 0 mw 958 f)] ++ ws_3)) hP hD rfl
  rcases hp_5 with ⟨rfl, hz_6⟩ | ⟨rfl, hz_7⟩
  · have he_8 := hz_6.2
    have hP : va_P D vwCl ([(rf_MO mo mw ma mf m0 m1 mu mv u0 u1 iz (0) mb mn mpt mbg mwr mwk mlf men), (rf_RW ct 0 mw 958 f)] ++ ws_3) H := by rw [he_8] at hP; exact hP
    have hD : va_D A ([(rf_MO mo mw ma mf m0 m1 mu mv u0 u1 iz (0) mb mn mpt mbg mwr mwk mlf men), (rf_RW ct 0 mw 958 f)] ++ ws_3) := by rw [he_8] at hD; exact hD
    refine lv_if_eq (tgt := 12) hx hb dX11_capacityByRule_5 (by decide) (fun _ => ?_) (fun hc => absurd (by decide) hc)
    refine lv_aload_n hx hb dX11_capacityByRule_12 rfl (lv_at hl 0 rfl) ?_
    refine lv_iload_n hx hb dX11_capacityByRule_13 rfl (lv_at hl 1 rfl) ?_
    refine lv_bipush (v := 20) hx hb dX11_capacityByRule_14 (by decide) ?_
    obtain ⟨hP, hD⟩ := ty_ipPD (E1 := []) (E2 := [(rf_MO mo mw ma mf m0 m1 mu mv u0 u1 iz (0) mb mn mpt mbg mwr mwk mlf men), (rf_RW ct 0 mw 958 f)]) hP hD rfl ty_mva
    refine ty_Ki hP hD hS hA (va_runV (As := [.int p1, .int 20]) (rest := []) ⟨hx, hb, hml, hown, hts⟩ (m_of_20 l D ct S ws_3 ph xx mo mw ma mf m0 m1 mu mv u0 u1 iz mb (0 : Int32) mn mpt mbg mwr mwk mlf men f G cx p1 _ hT hph hy1 hR hz_6.1) (cm_V 2 hts kc_X11_of ki_RX11 kl_RX11_209 kv_X11_of kx_X11_of kd_X11_of ⟨Nat.le_of_ble_eq_true rfl, Nat.le_of_ble_eq_true rfl⟩) (ty_preE (ci := 11) (q0 := 0) hP hK hD hS hA hX rfl rfl) rfl rfl hl.1 rfl (lv_room (Nat.le_of_ble_eq_true rfl)) dX11_capacityByRule_16 ⟨Nat.le_of_ble_eq_true rfl, Nat.le_of_ble_eq_true rfl⟩) (fun r_9 u H locs hw_10 hP hD hS => ?_)
    obtain ⟨ws_11, rfl⟩ : ∃ z, z = u := ⟨_, rfl⟩
    obtain ⟨hT, rfl⟩ := hw_10
    obtain ⟨hP, hD⟩ := ty_shPD (w2 := ([(rf_MO mo mw ma mf m0 m1 mu mv u0 u1 iz (0) mb mn mpt mbg mwr mwk mlf men), (rf_RW ct 0 mw 958 f)] ++ ws_11)) hP hD rfl
    exact W.iret (v := (rf_of f p1 20)) hx hb hr (fun t ht hW => ⟨⟨(rf_of f p1 20), (ws_11, (0 : Int32)), rfl, ⟨hT, ⟨th1_4, trivial, (Or.inl ⟨hz_6, ⟨rfl, rfl⟩⟩)⟩⟩, by rw [ht]; exact hP, by rw [hAe]; exact hD⟩, hS.F ht⟩) hS.2.2 dX11_capacityByRule_19
  · have he_12 := hz_7.2
    have hP : va_P D vwCl ([(rf_MO mo mw ma mf m0 m1 mu mv u0 u1 iz (1) mb mn mpt mbg mwr mwk mlf men), (rf_RW ct 0 mw 958 f)] ++ ws_3) H := by rw [he_12] at hP; exact hP
    have hD : va_D A ([(rf_MO mo mw ma mf m0 m1 mu mv u0 u1 iz (1) mb mn mpt mbg mwr mwk mlf men), (rf_RW ct 0 mw 958 f)] ++ ws_3) := by rw [he_12] at hD; exact hD
    refine lv_if_eq (tgt := 12) hx hb dX11_capacityByRule_5 (by decide) (fun hc => absurd hc (by decide)) (fun _ => ?_)
    refine lv_iconst (v := 0) hx hb dX11_capacityByRule_8 (by decide) ?_
    refine lv_goto (tgt := 19) hx hb dX11_capacityByRule_9 (by decide) ?_
    exact W.iret (v := 0) hx hb hr (fun t ht hW => ⟨⟨0, (ws_3, (1 : Int32)), rfl, ⟨hT, ⟨th1_4, trivial, (Or.inr ⟨hz_7, ⟨rfl, rfl⟩⟩)⟩⟩, by rw [ht]; exact hP, by rw [hAe]; exact hD⟩, hS.F ht⟩) hS.2.2 dX11_capacityByRule_19
def q_X11_power (f : Nat → Int32) (G : Nat → Int32) (p1 : Int32) (r : Int32) (th1 : Int32) : Prop := (∃ (th1_4 : Int32), True ∧ ((((0 ≤ p1.toInt ∧ p1.toInt < (G 9).toInt) ∧ th1_4 = 0) ∧ (r = ((((rf_of f p1 4).toInt64) * ((rf_of f p1 5).toInt64)) / 1000).toInt32 ∧ th1 = 0)) ∨ ((¬ (0 ≤ p1.toInt ∧ p1.toInt < (G 9).toInt) ∧ th1_4 = 1) ∧ (r = 0 ∧ th1 = 1))))
set_option maxRecDepth 100000 in
set_option maxHeartbeats 4000000 in
theorem m_X11_power (l : Launch) (D : va_G) (ct : Nat → ClassId) (S : ty_S) (ws : va_W) (ph : va_W → Prop) (xx : Nat → Nat → Nat → Prop) (mo : Nat) (mw : Nat) (ma : Nat) (mf : Nat) (m0 : Nat) (m1 : Nat) (mu : Nat) (mv : Nat) (u0 : Nat) (u1 : Nat) (iz : Nat) (mb : Nat) (th : Int32) (mn : Int32) (mpt : Int32) (mbg : Int32) (mwr : Int32) (mwk : Int32) (mlf : Int32) (men : Int32) (f : Nat → Int32) (G : Nat → Int32) (cx : Int) (p1 : Int32) (sz : Nat) (hT : ty_V ct S ph ws) (hph : ty_C ph xx) (hy1 : ty_y1 xx) (hR : rf_R G cx f) : Met l yX11_power (ws_ yX11_power cX11_power 2 (some .int)) ({ frames := 2, cells := 0, slots := 0, locals := 46 } : Room) (va_Pc [.ref mo, .int p1] (cmP D ct sz ([(rf_MO mo mw ma mf m0 m1 mu mv u0 u1 iz th mb mn mpt mbg mwr mwk mlf men), (rf_RW ct 0 mw 958 f)] ++ ws))) (va_Qi (fun (r : Int32) (u : va_W × Int32) => match u with | (u9, th1) => ty_V ct S ph u9 ∧ (q_X11_power f G p1 r th1)) (cmB D ([(rf_MO mo mw ma mf m0 m1 mu mv u0 u1 iz th mb mn mpt mbg mwr mwk mlf men), (rf_RW ct 0 mw 958 f)] ++ ws) sz (fun (u : va_W × Int32) => match u with | (u9, th1) => ([(rf_MO mo mw ma mf m0 m1 mu mv u0 u1 iz th1 mb mn mpt mbg mwr mwk mlf men), (rf_RW ct 0 mw 958 f)] ++ u9))) (va_A ([(rf_MO mo mw ma mf m0 m1 mu mv u0 u1 iz th mb mn mpt mbg mwr mwk mlf men), (rf_RW ct 0 mw 958 f)] ++ ws) sz)) 0 0 (va_A ([(rf_MO mo mw ma mf m0 m1 mu mv u0 u1 iz th mb mn mpt mbg mwr mwk mlf men), (rf_RW ct 0 mw 958 f)] ++ ws) sz) := by
  refine Met.ofW (cc := cX11_power) (maxL := 2) (ret := (some .int)) (by decide) rfl ?_
  intro p e s m args below meth c s₁ B hml hv
  obtain ⟨rfl, hsz, hP, hK, hD0, hX⟩ := hv
  have hx := B.exec
  have hb := B.bytes
  have hr := B.returns
  have hts := ws_all (atoms_spec (ws := ws_ yX11_power cX11_power 2 (some .int)) B.pre)
  have hown : s.vm.findClass RX11 = some m.cls := findClass_of_methodNamed B.named
  have hlocks := B.notSynchronized
  subst hsz
  have hD := hD0.self (sz := s.heap.size)
  generalize hAe : va_A ([(rf_MO mo mw ma mf m0 m1 mu mv u0 u1 iz th mb mn mpt mbg mwr mwk mlf men), (rf_RW ct 0 mw 958 f)] ++ ws) s.heap.size = A at hD hX ⊢
  have hA : ∀ q : Nat, s.heap.size ≤ q → A q := fun q h => by rw [← hAe]; exact Or.inr h
  have hS : va_S A s.heap s.heap [] := va_S.rf
  have hl := lv_entry ([.ref mo, .int p1]) (n := 2) (Nat.le_of_ble_eq_true rfl)
  rw [lg_entry_eq]
  generalize (lg_sl ([.ref mo, .int p1]) ++ List.replicate (2 - (lg_sl ([.ref mo, .int p1])).length) Slot.unset).toArray = ls at hl ⊢
  have hl : lv_has ls 2 [(0, .ref mo), (1, .int p1)] := hl
  refine lv_aload_n hx hb dX11_power_0 rfl (lv_at hl 0 rfl) ?_
  refine lv_iload_n hx hb dX11_power_1 rfl (lv_at hl 1 rfl) ?_
  obtain ⟨hP, hD⟩ := ty_ipPD (E1 := []) (E2 := [(rf_MO mo mw ma mf m0 m1 mu mv u0 u1 iz th mb mn mpt mbg mwr mwk mlf men), (rf_RW ct 0 mw 958 f)]) hP hD rfl ty_mva
  refine ty_Ki hP hD hS hA (va_runV (As := [.int p1]) (rest := []) ⟨hx, hb, hml, hown, hts⟩ (m_X11_noChannel l D ct S ws ph xx mo mw ma mf m0 m1 mu mv u0 u1 iz mb th mn mpt mbg mwr mwk mlf men f G cx p1 _ hT hph hy1 hR) (cm_V 1 hts kc_X11_noChannel ki_RX11 kl_RX11_344 kv_X11_noChannel kx_X11_noChannel kd_X11_noChannel ⟨Nat.le_of_ble_eq_true rfl, Nat.le_of_ble_eq_true rfl⟩) (ty_preE (ci := 11) (q0 := 0) hP hK hD hS hA hX rfl rfl) rfl rfl hl.1 rfl (lv_room (Nat.le_of_ble_eq_true rfl)) dX11_power_2 ⟨Nat.le_of_ble_eq_true rfl, Nat.le_of_ble_eq_true rfl⟩) (fun r_1 u H locs hw_2 hP hD hS => ?_)
  obtain ⟨ws_3, th1_4⟩ := u
  obtain ⟨hT, hp_5⟩ := hw_2
  have hp_5 : ((r_1 = 0 ∧ (0 ≤ p1.toInt ∧ p1.toInt < (G 9).toInt) ∧ th1_4 = 0) ∨ (r_1 = 1 ∧ ¬ (0 ≤ p1.toInt ∧ p1.toInt < (G 9).toInt) ∧ th1_4 = 1)) := hp_5
  obtain ⟨hP, hD⟩ := ty_shPD (w2 := ([(rf_MO mo mw ma mf m0 m1 mu mv u0 u1 iz th1_4 mb mn mpt mbg mwr mwk mlf men), (rf_RW ct 0 mw 958 f)] ++ ws_3)) hP hD rfl
  rcases hp_5 with ⟨rfl, hz_6⟩ | ⟨rfl, hz_7⟩
  · have he_8 := hz_6.2
    have hP : va_P D vwCl ([(rf_MO mo mw ma mf m0 m1 mu mv u0 u1 iz (0) mb mn mpt mbg mwr mwk mlf men), (rf_RW ct 0 mw 958 f)] ++ ws_3) H := by rw [he_8] at hP; exact hP
    have hD : va_D A ([(rf_MO mo mw ma mf m0 m1 mu mv u0 u1 iz (0) mb mn mpt mbg mwr mwk mlf men), (rf_RW ct 0 mw 958 f)] ++ ws_3) := by rw [he_8] at hD; exact hD
    refine lv_if_eq (tgt := 12) hx hb dX11_power_5 (by decide) (fun _ => ?_) (fun hc => absurd (by decide) hc)
    refine lv_aload_n hx hb dX11_power_12 rfl (lv_at hl 0 rfl) ?_
    refine lv_iload_n hx hb dX11_power_13 rfl (lv_at hl 1 rfl) ?_
    refine lv_iconst (v := 4) hx hb dX11_power_14 (by decide) ?_
    obtain ⟨hP, hD⟩ := ty_ipPD (E1 := []) (E2 := [(rf_MO mo mw ma mf m0 m1 mu mv u0 u1 iz (0) mb mn mpt mbg mwr mwk mlf men), (rf_RW ct 0 mw 958 f)]) hP hD rfl ty_mva
    refine ty_Ki hP hD hS hA (va_runV (As := [.int p1, .int 4]) (rest := []) ⟨hx, hb, hml, hown, hts⟩ (m_of_4 l D ct S ws_3 ph xx mo mw ma mf m0 m1 mu mv u0 u1 iz mb (0 : Int32) mn mpt mbg mwr mwk mlf men f G cx p1 _ hT hph hy1 hR hz_6.1) (cm_V 2 hts kc_X11_of ki_RX11 kl_RX11_209 kv_X11_of kx_X11_of kd_X11_of ⟨Nat.le_of_ble_eq_true rfl, Nat.le_of_ble_eq_true rfl⟩) (ty_preE (ci := 11) (q0 := 0) hP hK hD hS hA hX rfl rfl) rfl rfl hl.1 rfl (lv_room (Nat.le_of_ble_eq_true rfl)) dX11_power_15 ⟨Nat.le_of_ble_eq_true rfl, Nat.le_of_ble_eq_true rfl⟩) (fun r_9 u H locs hw_10 hP hD hS => ?_)
    obtain ⟨ws_11, rfl⟩ : ∃ z, z = u := ⟨_, rfl⟩
    obtain ⟨hT, rfl⟩ := hw_10
    obtain ⟨hP, hD⟩ := ty_shPD (w2 := ([(rf_MO mo mw ma mf m0 m1 mu mv u0 u1 iz (0) mb mn mpt mbg mwr mwk mlf men), (rf_RW ct 0 mw 958 f)] ++ ws_11)) hP hD rfl
    refine lv_i2l hx hb dX11_power_18 rfl ?_
    refine lv_aload_n hx hb dX11_power_19 rfl (lv_at hl 0 rfl) ?_
    refine lv_iload_n hx hb dX11_power_20 rfl (lv_at hl 1 rfl) ?_
    refine lv_iconst (v := 5) hx hb dX11_power_21 (by decide) ?_
    obtain ⟨hP, hD⟩ := ty_ipPD (E1 := []) (E2 := [(rf_MO mo mw ma mf m0 m1 mu mv u0 u1 iz (0) mb mn mpt mbg mwr mwk mlf men), (rf_RW ct 0 mw 958 f)]) hP hD rfl ty_mva
    refine ty_Ki hP hD hS hA (va_runV (As := [.int p1, .int 5]) (rest := [.long ((rf_of f p1 4).toInt64)]) ⟨hx, hb, hml, hown, hts⟩ (m_of_5 l D ct S ws_11 ph xx mo mw ma mf m0 m1 mu mv u0 u1 iz mb (0 : Int32) mn mpt mbg mwr mwk mlf men f G cx p1 _ hT hph hy1 hR hz_6.1) (cm_V 2 hts kc_X11_of ki_RX11 kl_RX11_209 kv_X11_of kx_X11_of kd_X11_of ⟨Nat.le_of_ble_eq_true rfl, Nat.le_of_ble_eq_true rfl⟩) (ty_preE (ci := 11) (q0 := 0) hP hK hD hS hA hX rfl rfl) rfl rfl hl.1 rfl (lv_room (Nat.le_of_ble_eq_true rfl)) dX11_power_22 ⟨Nat.le_of_ble_eq_true rfl, Nat.le_of_ble_eq_true rfl⟩) (fun r_12 u H locs hw_13 hP hD hS => ?_)
    obtain ⟨ws_14, rfl⟩ : ∃ z, z = u := ⟨_, rfl⟩
    obtain ⟨hT, rfl⟩ := hw_13
    obtain ⟨hP, hD⟩ := ty_shPD (w2 := ([(rf_MO mo mw ma mf m0 m1 mu mv u0 u1 iz (0) mb mn mpt mbg mwr mwk mlf men), (rf_RW ct 0 mw 958 f)] ++ ws_14)) hP hD rfl
    refine lv_i2l hx hb dX11_power_25 rfl ?_
    refine lv_lmul hx hb dX11_power_26 ?_
    refine lv_ldc2 hx hb hown (hts _ kl_RX11_303) dX11_power_27 ?_
    refine lv_ldiv hx hb dX11_power_30 (by decide) ?_
    refine lv_l2i hx hb dX11_power_31 rfl ?_
    exact W.iret (v := ((((rf_of f p1 4).toInt64) * ((rf_of f p1 5).toInt64)) / 1000).toInt32) hx hb hr (fun t ht hW => ⟨⟨((((rf_of f p1 4).toInt64) * ((rf_of f p1 5).toInt64)) / 1000).toInt32, (ws_14, (0 : Int32)), rfl, ⟨hT, ⟨th1_4, trivial, (Or.inl ⟨hz_6, ⟨rfl, rfl⟩⟩)⟩⟩, by rw [ht]; exact hP, by rw [hAe]; exact hD⟩, hS.F ht⟩) hS.2.2 dX11_power_32
  · have he_15 := hz_7.2
    have hP : va_P D vwCl ([(rf_MO mo mw ma mf m0 m1 mu mv u0 u1 iz (1) mb mn mpt mbg mwr mwk mlf men), (rf_RW ct 0 mw 958 f)] ++ ws_3) H := by rw [he_15] at hP; exact hP
    have hD : va_D A ([(rf_MO mo mw ma mf m0 m1 mu mv u0 u1 iz (1) mb mn mpt mbg mwr mwk mlf men), (rf_RW ct 0 mw 958 f)] ++ ws_3) := by rw [he_15] at hD; exact hD
    refine lv_if_eq (tgt := 12) hx hb dX11_power_5 (by decide) (fun hc => absurd hc (by decide)) (fun _ => ?_)
    refine lv_iconst (v := 0) hx hb dX11_power_8 (by decide) ?_
    refine lv_goto (tgt := 32) hx hb dX11_power_9 (by decide) ?_
    exact W.iret (v := 0) hx hb hr (fun t ht hW => ⟨⟨0, (ws_3, (1 : Int32)), rfl, ⟨hT, ⟨th1_4, trivial, (Or.inr ⟨hz_7, ⟨rfl, rfl⟩⟩)⟩⟩, by rw [ht]; exact hP, by rw [hAe]; exact hD⟩, hS.F ht⟩) hS.2.2 dX11_power_32
