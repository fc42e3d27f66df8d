theorem rf_rngm {v : Int32} {n : Int32} (hn : 0 ≤ n.toInt ∧ n.toInt ≤ 1000) (h : cm_rng v.toInt64 0 ((n - 1).toInt64) = 0) : ¬ (0 ≤ v.toInt ∧ v.toInt < n.toInt) := by
  have o : (1 : Int32).toInt = 1 := by decide
  have e : (n - 1).toInt = n.toInt - 1 := by rw [Jvm.Kit.i32_sub (by rw [o]; omega) (by rw [o]; omega), o]
  have r := rf_rngn (v := v) (L := 0) (U := n.toInt - 1) (by decide) (by rw [Jvm.Kit.i64_of_i32, e]) h
  omega
theorem rf_nchan {G f : Nat → Int32} {cx : Int} {c : Int32} (h : rf_R G cx f) (hr : cm_rng c.toInt64 0 ((f 9) - 1).toInt64 = 0) : ¬ (0 ≤ c.toInt ∧ c.toInt < (G 9).toInt) := by
  have e : f 9 = G 9 := h.2.1.2.2.2.2.1
  have h2 := h.1.2.2.1
  rw [e] at hr
  exact rf_rngm (by omega) hr
theorem rf_nprog {G f : Nat → Int32} {cx : Int} {c : Int32} (h : rf_R G cx f) (hr : cm_rng c.toInt64 0 ((f 10) - 1).toInt64 = 0) : ¬ (0 ≤ c.toInt ∧ c.toInt < (G 10).toInt) := by
  have e : f 10 = G 10 := h.2.1.2.2.2.2.2.1
  have h2 := h.1.2.2.2.1
  rw [e] at hr
  exact rf_rngm (by omega) hr
set_option maxRecDepth 100000 in
set_option maxHeartbeats 4000000 in
theorem m_X11_noChannel (l : Launch) (D : va_G) (ct : Nat → ClassId) (S : ty_S) (ws : va_W) (ph : va_W → Prop) (xx : Nat → Nat → Nat → Prop) (mo : Nat) (mw : Nat) (ma : Nat) (mf : Nat) (m0 : Nat) (m1 : Nat) (mu : Nat) (mv : Nat) (u0 : Nat) (u1 : Nat) (iz : Nat) (mb : Nat) (th : Int32) (mn : Int32) (mpt : Int32) (mbg : Int32) (mwr : Int32) (mwk : Int32) (mlf : Int32) (men : Int32) (f : Nat → Int32) (G : Nat → Int32) (cx : Int) (p1 : Int32) (sz : Nat) (hT : ty_V ct S ph ws) (hph : ty_C ph xx) (hy1 : ty_y1 xx) (hR : rf_R G cx f) : Met l yX11_noChannel (ws_ yX11_noChannel cX11_noChannel 2 (some .boolean)) ({ frames := 1, cells := 0, slots := 0, locals := 25 } : Room) (va_Pc [.ref mo, .int p1] (cmP D ct sz ([(rf_MO mo mw ma mf m0 m1 mu mv u0 u1 iz th mb mn mpt mbg mwr mwk mlf men), (rf_RW ct 0 mw 958 f)] ++ ws))) (va_Qi (fun (r : Int32) (u : va_W × Int32) => match u with | (u9, th1) => ty_V ct S ph u9 ∧ ((r = 0 ∧ (0 ≤ p1.toInt ∧ p1.toInt < (G 9).toInt) ∧ th1 = 0) ∨ (r = 1 ∧ ¬ (0 ≤ p1.toInt ∧ p1.toInt < (G 9).toInt) ∧ th1 = 1))) (cmB D ([(rf_MO mo mw ma mf m0 m1 mu mv u0 u1 iz th mb mn mpt mbg mwr mwk mlf men), (rf_RW ct 0 mw 958 f)] ++ ws) sz (fun (u : va_W × Int32) => match u with | (u9, th1) => ([(rf_MO mo mw ma mf m0 m1 mu mv u0 u1 iz th1 mb mn mpt mbg mwr mwk mlf men), (rf_RW ct 0 mw 958 f)] ++ u9))) (va_A ([(rf_MO mo mw ma mf m0 m1 mu mv u0 u1 iz th mb mn mpt mbg mwr mwk mlf men), (rf_RW ct 0 mw 958 f)] ++ ws) sz)) 0 0 (va_A ([(rf_MO mo mw ma mf m0 m1 mu mv u0 u1 iz th mb mn mpt mbg mwr mwk mlf men), (rf_RW ct 0 mw 958 f)] ++ ws) sz) := by
  refine Met.ofW (cc := cX11_noChannel) (maxL := 2) (ret := (some .boolean)) (by decide) rfl ?_
  intro p e s m args below meth c s₁ B hml hv
  obtain ⟨rfl, hsz, hP, hK, hD0, hX⟩ := hv
  have hx := B.exec
  have hb := B.bytes
  have hr := B.returns
  have hts := ws_all (atoms_spec (ws := ws_ yX11_noChannel cX11_noChannel 2 (some .boolean)) B.pre)
  have hown : s.vm.findClass RX11 = some m.cls := findClass_of_methodNamed B.named
  have hlocks := B.notSynchronized
  subst hsz
  have hD := hD0.self (sz := s.heap.size)
  generalize hAe : va_A ([(rf_MO mo mw ma mf m0 m1 mu mv u0 u1 iz th mb mn mpt mbg mwr mwk mlf men), (rf_RW ct 0 mw 958 f)] ++ ws) s.heap.size = A at hD hX ⊢
  have hA : ∀ q : Nat, s.heap.size ≤ q → A q := fun q h => by rw [← hAe]; exact Or.inr h
  have hS : va_S A s.heap s.heap [] := va_S.rf
  have hl := lv_entry ([.ref mo, .int p1]) (n := 2) (Nat.le_of_ble_eq_true rfl)
  rw [lg_entry_eq]
  generalize (lg_sl ([.ref mo, .int p1]) ++ List.replicate (2 - (lg_sl ([.ref mo, .int p1])).length) Slot.unset).toArray = ls at hl ⊢
  have hl : lv_has ls 2 [(0, .ref mo), (1, .int p1)] := hl
  refine lv_aload_n hx hb dX11_noChannel_0 rfl (lv_at hl 0 rfl) ?_
  refine lv_iconst (v := 0) hx hb dX11_noChannel_1 (by decide) ?_
  refine va_put (v := .int 0) (ty := .int) (D := D) (ci := 11) (C := RX11) (T := TX11) (N := 19) hx hb hts in_X11 tyX11 tyX11_ok nmX11 hown hK hP hD hS 0 rfl rfl 10 (by decide) (hts _ kl_RX11_49) (fun _ h9 => h9) rfl (by decide +kernel) rfl rfl (Nat.le_of_ble_eq_true rfl) dX11_noChannel_2 (fun H locs hP hD hS => ?_)
  have hP : va_P D vwCl ([(rf_MO mo mw ma mf m0 m1 mu mv u0 u1 iz (0) mb mn mpt mbg mwr mwk mlf men), (rf_RW ct 0 mw 958 f)] ++ ws) H := hP
  have hD : va_D A ([(rf_MO mo mw ma mf m0 m1 mu mv u0 u1 iz (0) mb mn mpt mbg mwr mwk mlf men), (rf_RW ct 0 mw 958 f)] ++ ws) := hD
  refine lv_aload_n hx hb dX11_noChannel_5 rfl (lv_at hl 0 rfl) ?_
  refine lv_iload_n hx hb dX11_noChannel_6 rfl (lv_at hl 1 rfl) ?_
  refine lv_i2l hx hb dX11_noChannel_7 rfl ?_
  refine lv_lconst (v := 0) hx hb dX11_noChannel_8 (by decide) ?_
  refine lv_aload_n hx hb dX11_noChannel_9 rfl (lv_at hl 0 rfl) ?_
  refine va_get (v := .ref mw) (D := D) (ci := 11) (C := RX11) (T := TX11) (N := 19) hx hb hts in_X11 hown hK hP 0 rfl rfl 0 (by decide) (hts _ kl_RX11_9) (fun _ h9 => h9) rfl dX11_noChannel_10 ?_
  refine lv_bipush (v := 9) hx hb dX11_noChannel_13 (by decide) ?_
  refine va_iald hx hb hK hP 1 0 rfl rfl (cm_vin (by decide)) dX11_noChannel_15 ?_
  refine cm_cst (y := (f 9)) (by first | rfl | decide +kernel) ?_
  refine lv_iconst (v := 1) hx hb dX11_noChannel_16 (by decide) ?_
  refine lv_isub hx hb dX11_noChannel_17 ?_
  refine lv_i2l hx hb dX11_noChannel_18 rfl ?_
  obtain ⟨hP, hD⟩ := ty_ipPD (E1 := [(rf_MO mo mw ma mf m0 m1 mu mv u0 u1 iz (0) mb mn mpt mbg mwr mwk mlf men), (rf_RW ct 0 mw 958 f)]) (E2 := []) hP hD rfl ty_mva
  refine ty_Ki hP hD hS hA (va_runS (As := [.long p1.toInt64, .long 0, .long (((f 9) - 1).toInt64)]) (rest := [.ref mo]) ⟨hx, hb, hml, hown, hts⟩ (m_X11_in l D ct S ws ph xx p1.toInt64 (0 : Int64) (((f 9) - 1).toInt64) _ hT hph hy1) (cm_S 3 hts kc_X11_in ki_RX11 kl_RX11_70 ks_X11_in kd_X11_in ⟨Nat.le_of_ble_eq_true rfl, Nat.le_of_ble_eq_true rfl⟩) (ty_preS hP hK hD hS hA hX) rfl rfl hl.1 rfl (lv_room (Nat.le_of_ble_eq_true rfl)) dX11_noChannel_19 ⟨Nat.le_of_ble_eq_true rfl, Nat.le_of_ble_eq_true rfl⟩) (fun r_1 u H locs hw_2 hP hD hS => ?_)
  obtain ⟨ws_3, rfl⟩ : ∃ z, z = u := ⟨_, rfl⟩
  obtain ⟨hT, rfl⟩ := hw_2
  obtain ⟨hP, hD⟩ := ty_shPD (w2 := ([(rf_MO mo mw ma mf m0 m1 mu mv u0 u1 iz (0) mb mn mpt mbg mwr mwk mlf men), (rf_RW ct 0 mw 958 f)] ++ ws_3)) hP hD rfl
  refine lv_if_ne (tgt := 29) hx hb dX11_noChannel_22 (by decide) (fun hc_4 => ?_) (fun hc_4 => ?_)
  · refine lv_iconst (v := 0) hx hb dX11_noChannel_29 (by decide) ?_
    refine lv_iconst (v := 1) hx hb dX11_noChannel_30 (by decide) ?_
    obtain ⟨hP, hD⟩ := ty_opPD (E1 := [(rf_RW ct 0 mw 958 f)]) (E2 := [(rf_MO mo mw ma mf m0 m1 mu mv u0 u1 iz (0) mb mn mpt mbg mwr mwk mlf men)]) (n := 2) [1, 0] hP hD rfl rfl (by decide +kernel) ty_mva
    refine ty_Ki hP hD hS hA (va_runV (As := [.int 0, .int 1]) (rest := []) ⟨hx, hb, hml, hown, hts⟩ (m_throwsIf_0 l D ct S ws_3 ph xx mo mw ma mf m0 m1 mu mv u0 u1 iz mb mn mpt mbg mwr mwk mlf men (0 : Int32) (1 : Int32) _ hT hph hy1 (by decide)) (cm_V 2 hts kc_X11_throwsIf ki_RX11 kl_RX11_328 kv_X11_throwsIf kx_X11_throwsIf kd_X11_throwsIf ⟨Nat.le_of_ble_eq_true rfl, Nat.le_of_ble_eq_true rfl⟩) (ty_preE (ci := 11) (q0 := 1) hP hK hD hS hA hX rfl rfl) rfl rfl hl.1 rfl (lv_room (Nat.le_of_ble_eq_true rfl)) dX11_noChannel_31 ⟨Nat.le_of_ble_eq_true rfl, Nat.le_of_ble_eq_true rfl⟩) (fun r_5 u H locs hw_6 hP hD hS => ?_)
    obtain ⟨ws_7, th1_8⟩ := u
    obtain ⟨hT, hp_9⟩ := hw_6
    have hp_9 : ((r_5 = 0 ∧ (0 : Int32) = 0 ∧ th1_8 = 0) ∨ (r_5 = 1 ∧ ¬ (0 : Int32) = 0 ∧ th1_8 = (1 : Int32))) := hp_9
    obtain ⟨hP, hD⟩ := ty_shPD (w2 := ([(rf_RW ct 0 mw 958 f), (rf_MO mo mw ma mf m0 m1 mu mv u0 u1 iz th1_8 mb mn mpt mbg mwr mwk mlf men)] ++ ws_7)) hP hD rfl
    rcases hp_9 with ⟨rfl, hz_10⟩ | ⟨rfl, hz_11⟩
    · have he_12 := hz_10.2
      have hP : va_P D vwCl ([(rf_RW ct 0 mw 958 f), (rf_MO mo mw ma mf m0 m1 mu mv u0 u1 iz (0) mb mn mpt mbg mwr mwk mlf men)] ++ ws_7) H := by rw [he_12] at hP; exact hP
      have hD : va_D A ([(rf_RW ct 0 mw 958 f), (rf_MO mo mw ma mf m0 m1 mu mv u0 u1 iz (0) mb mn mpt mbg mwr mwk mlf men)] ++ ws_7) := by rw [he_12] at hD; exact hD
      obtain ⟨hP, hD⟩ := ty_ordPD (E2 := [(rf_MO mo mw ma mf m0 m1 mu mv u0 u1 iz (0) mb mn mpt mbg mwr mwk mlf men), (rf_RW ct 0 mw 958 f)]) (n := 2) [1, 0] hP hD rfl rfl (by decide +kernel)
      exact W.zret (v := 0) hx hb hr (by decide) (fun t ht hW => ⟨⟨0, (ws_7, (0 : Int32)), rfl, ⟨hT, (Or.inl ⟨rfl, rf_chan hR hc_4, rfl⟩)⟩, by rw [ht]; exact hP, by rw [hAe]; exact hD⟩, hS.F ht⟩) hS.2.2 dX11_noChannel_34
    · exact absurd rfl hz_11.1
  · refine lv_iconst (v := 1) hx hb dX11_noChannel_25 (by decide) ?_
    refine lv_goto (tgt := 30) hx hb dX11_noChannel_26 (by decide) ?_
    refine lv_iconst (v := 1) hx hb dX11_noChannel_30 (by decide) ?_
    obtain ⟨hP, hD⟩ := ty_opPD (E1 := [(rf_RW ct 0 mw 958 f)]) (E2 := [(rf_MO mo mw ma mf m0 m1 mu mv u0 u1 iz (0) mb mn mpt mbg mwr mwk mlf men)]) (n := 2) [1, 0] hP hD rfl rfl (by decide +kernel) ty_mva
    refine ty_Ki hP hD hS hA (va_runV (As := [.int 1, .int 1]) (rest := []) ⟨hx, hb, hml, hown, hts⟩ (m_throwsIf_0 l D ct S ws_3 ph xx mo mw ma mf m0 m1 mu mv u0 u1 iz mb mn mpt mbg mwr mwk mlf men (1 : Int32) (1 : Int32) _ hT hph hy1 (by decide)) (cm_V 2 hts kc_X11_throwsIf ki_RX11 kl_RX11_328 kv_X11_throwsIf kx_X11_throwsIf kd_X11_throwsIf ⟨Nat.le_of_ble_eq_true rfl, Nat.le_of_ble_eq_true rfl⟩) (ty_preE (ci := 11) (q0 := 1) hP hK hD hS hA hX rfl rfl) rfl rfl hl.1 rfl (lv_room (Nat.le_of_ble_eq_true rfl)) dX11_noChannel_31 ⟨Nat.le_of_ble_eq_true rfl, Nat.le_of_ble_eq_true rfl⟩) (fun r_13 u H locs hw_14 hP hD hS => ?_)
    obtain ⟨ws_15, th1_16⟩ := u
    obtain ⟨hT, hp_17⟩ := hw_14
    have hp_17 : ((r_13 = 0 ∧ (1 : Int32) = 0 ∧ th1_16 = 0) ∨ (r_13 = 1 ∧ ¬ (1 : Int32) = 0 ∧ th1_16 = (1 : Int32))) := hp_17
    obtain ⟨hP, hD⟩ := ty_shPD (w2 := ([(rf_RW ct 0 mw 958 f), (rf_MO mo mw ma mf m0 m1 mu mv u0 u1 iz th1_16 mb mn mpt mbg mwr mwk mlf men)] ++ ws_15)) hP hD rfl
    rcases hp_17 with ⟨rfl, hz_18⟩ | ⟨rfl, hz_19⟩
    · exact absurd hz_18.1 (by decide)
    · have he_20 := hz_19.2
      have hP : va_P D vwCl ([(rf_RW ct 0 mw 958 f), (rf_MO mo mw ma mf m0 m1 mu mv u0 u1 iz (1) mb mn mpt mbg mwr mwk mlf men)] ++ ws_15) H := by rw [he_20] at hP; exact hP
      have hD : va_D A ([(rf_RW ct 0 mw 958 f), (rf_MO mo mw ma mf m0 m1 mu mv u0 u1 iz (1) mb mn mpt mbg mwr mwk mlf men)] ++ ws_15) := by rw [he_20] at hD; exact hD
      obtain ⟨hP, hD⟩ := ty_ordPD (E2 := [(rf_MO mo mw ma mf m0 m1 mu mv u0 u1 iz (1) mb mn mpt mbg mwr mwk mlf men), (rf_RW ct 0 mw 958 f)]) (n := 2) [1, 0] hP hD rfl rfl (by decide +kernel)
      exact W.zret (v := 1) hx hb hr (by decide) (fun t ht hW => ⟨⟨1, (ws_15, (1 : Int32)), rfl, ⟨hT, (Or.inr ⟨rfl, rf_nchan hR hc_4, rfl⟩)⟩, by rw [ht]; exact hP, by rw [hAe]; exact hD⟩, hS.F ht⟩) hS.2.2 dX11_noChannel_34
set_option maxRecDepth 100000 in
set_option maxHeartbeats 4000000 in
theorem m_X11_isIn (l : Launch) (D : va_G) (ct : Nat → ClassId) (S : ty_S) (ws : va_W) (ph : va_W → Prop) (xx : Nat → Nat → Nat → Prop) (mo : Nat) (mw : Nat) (ma : Nat) (mf : Nat) (m0 : Nat) (m1 : Nat) (mu : Nat) (mv : Nat) (u0 : Nat) (u1 : Nat) (iz : Nat) (mb : Nat) (th : Int32) (mn : Int32) (mpt : Int32) (mbg : Int32) (mwr : Int32) (mwk : Int32) (mlf : Int32) (men : Int32) (f : Nat → Int32) (G : Nat → Int32) (cx : Int) (p1 : Int32) (p2 : Int32) (sz : Nat) (hT : ty_V ct S ph ws) (hph : ty_C ph xx) (hy1 : ty_y1 xx) (hR : rf_R G cx f) (hc : 0 ≤ p1.toInt ∧ p1.toInt < (G 9).toInt) : Met l yX11_isIn (ws_ yX11_isIn cX11_isIn 3 (some .boolean)) ({ frames := 1, cells := 0, slots := 0, locals := 22 } : Room) (va_Pc [.ref mo, .int p1, .int p2] (cmP D ct sz ([(rf_MO mo mw ma mf m0 m1 mu mv u0 u1 iz th mb mn mpt mbg mwr mwk mlf men), (rf_RW ct 0 mw 958 f)] ++ ws))) (va_Qi (fun (r : Int32) (u9 : va_W) => ty_V ct S ph u9 ∧ ((r = 0 ∧ ¬ rf_of f p1 0 = p2) ∨ (r = 1 ∧ rf_of f p1 0 = p2))) (cmB D ([(rf_MO mo mw ma mf m0 m1 mu mv u0 u1 iz th mb mn mpt mbg mwr mwk mlf men), (rf_RW ct 0 mw 958 f)] ++ ws) sz (fun (u9 : va_W) => ([(rf_MO mo mw ma mf m0 m1 mu mv u0 u1 iz th mb mn mpt mbg mwr mwk mlf men), (rf_RW ct 0 mw 958 f)] ++ u9))) (va_A ([(rf_MO mo mw ma mf m0 m1 mu mv u0 u1 iz th mb mn mpt mbg mwr mwk mlf men), (rf_RW ct 0 mw 958 f)] ++ ws) sz)) 0 0 (va_A ([(rf_MO mo mw ma mf m0 m1 mu mv u0 u1 iz th mb mn mpt mbg mwr mwk mlf men), (rf_RW ct 0 mw 958 f)] ++ ws) sz) := by
  refine Met.ofW (cc := cX11_isIn) (maxL := 3) (ret := (some .boolean)) (by decide) rfl ?_
  intro p e s m args below meth c s₁ B hml hv
  obtain ⟨rfl, hsz, hP, hK, hD0, hX⟩ := hv
  have hx := B.exec
  have hb := B.bytes
  have hr := B.returns
  have hts := ws_all (atoms_spec (ws := ws_ yX11_isIn cX11_isIn 3 (some .boolean)) B.pre)
  have hown : s.vm.findClass RX11 = some m.cls := findClass_of_methodNamed B.named
  have hlocks := B.notSynchronized
  subst hsz
  have hD := hD0.self (sz := s.heap.size)
  generalize hAe : va_A ([(rf_MO mo mw ma mf m0 m1 mu mv u0 u1 iz th mb mn mpt mbg mwr mwk mlf men), (rf_RW ct 0 mw 958 f)] ++ ws) s.heap.size = A at hD hX ⊢
  have hA : ∀ q : Nat, s.heap.size ≤ q → A q := fun q h => by rw [← hAe]; exact Or.inr h
  have hS : va_S A s.heap s.heap [] := va_S.rf
  have hl := lv_entry ([.ref mo, .int p1, .int p2]) (n := 3) (Nat.le_of_ble_eq_true rfl)
  rw [lg_entry_eq]
  generalize (lg_sl ([.ref mo, .int p1, .int p2]) ++ List.replicate (3 - (lg_sl ([.ref mo, .int p1, .int p2])).length) Slot.unset).toArray = ls at hl ⊢
  have hl : lv_has ls 3 [(0, .ref mo), (1, .int p1), (2, .int p2)] := hl
  refine lv_aload_n hx hb dX11_isIn_0 rfl (lv_at hl 0 rfl) ?_
  refine lv_iload_n hx hb dX11_isIn_1 rfl (lv_at hl 1 rfl) ?_
  refine lv_iconst (v := 0) hx hb dX11_isIn_2 (by decide) ?_
  obtain ⟨hP, hD⟩ := ty_ipPD (E1 := []) (E2 := [(rf_MO mo mw ma mf m0 m1 mu mv u0 u1 iz th mb mn mpt mbg mwr mwk mlf men), (rf_RW ct 0 mw 958 f)]) hP hD rfl ty_mva
  refine ty_Ki hP hD hS hA (va_runV (As := [.int p1, .int 0]) (rest := []) ⟨hx, hb, hml, hown, hts⟩ (m_of_0 l D ct S ws ph xx mo mw ma mf m0 m1 mu mv u0 u1 iz mb th mn mpt mbg mwr mwk mlf men f G cx p1 _ hT hph hy1 hR hc) (cm_V 2 hts kc_X11_of ki_RX11 kl_RX11_209 kv_X11_of kx_X11_of kd_X11_of ⟨Nat.le_of_ble_eq_true rfl, Nat.le_of_ble_eq_true rfl⟩) (ty_preE (ci := 11) (q0 := 0) hP hK hD hS hA hX rfl rfl) rfl rfl hl.1 rfl (lv_room (Nat.le_of_ble_eq_true rfl)) dX11_isIn_3 ⟨Nat.le_of_ble_eq_true rfl, Nat.le_of_ble_eq_true rfl⟩) (fun r_1 u H locs hw_2 hP hD hS => ?_)
  obtain ⟨ws_3, rfl⟩ : ∃ z, z = u := ⟨_, rfl⟩
  obtain ⟨hT, rfl⟩ := hw_2
  obtain ⟨hP, hD⟩ := ty_shPD (w2 := ([(rf_MO mo mw ma mf m0 m1 mu mv u0 u1 iz th mb mn mpt mbg mwr mwk mlf men), (rf_RW ct 0 mw 958 f)] ++ ws_3)) hP hD rfl
  refine lv_iload_n hx hb dX11_isIn_6 rfl (lv_at hl 2 rfl) ?_
  refine lv_icmp_ne (tgt := 14) hx hb dX11_isIn_7 (by decide) (fun hc_4 => ?_) (fun hc_4 => ?_)
  · refine lv_iconst (v := 0) hx hb dX11_isIn_14 (by decide) ?_
    exact W.zret (v := 0) hx hb hr (by decide) (fun t ht hW => ⟨⟨0, ws_3, rfl, ⟨hT, (Or.inl ⟨rfl, hc_4⟩)⟩, by rw [ht]; exact hP, by rw [hAe]; exact hD⟩, hS.F ht⟩) hS.2.2 dX11_isIn_15
  · refine lv_iconst (v := 1) hx hb dX11_isIn_10 (by decide) ?_
    refine lv_goto (tgt := 15) hx hb dX11_isIn_11 (by decide) ?_
    exact W.zret (v := 1) hx hb hr (by decide) (fun t ht hW => ⟨⟨1, ws_3, rfl, ⟨hT, (Or.inr ⟨rfl, hc_4⟩)⟩, by rw [ht]; exact hP, by rw [hAe]; exact hD⟩, hS.F ht⟩) hS.2.2 dX11_isIn_15
set_option maxRecDepth 100000 in
set_option maxHeartbeats 4000000 in
theorem m_stepOf_0 (l : Launch) (D : va_G) (ct : Nat → ClassId) (S : ty_S) (ws : va_W) (ph : va_W → Prop) (xx : Nat → Nat → Nat → Prop) (mo : Nat) (mw : Nat) (ma : Nat) (mf : Nat) (m0 : Nat) (m1 : Nat) (mu : Nat) (mv : Nat) (u0 : Nat) (u1 : Nat) (iz : Nat) (mb : Nat) (th : Int32) (mn : Int32) (mpt : Int32) (mbg : Int32) (mwr : Int32) (mwk : Int32) (mlf : Int32) (men : Int32) (f : Nat → Int32) (G : Nat → Int32) (cx : Int) (p1 : Int32) (p2 : Int32) (sz : Nat) (hT : ty_V ct S ph ws) (hph : ty_C ph xx) (hy1 : ty_y1 xx) (hR : rf_R G cx f) (hp : 0 ≤ p1.toInt ∧ p1.toInt < 4) (hs : 0 ≤ p2.toInt ∧ p2.toInt ≤ 12) : Met l yX11_stepOf (ws_ yX11_stepOf cX11_stepOf 4 (some .int)) ({ frames := 0, cells := 0, slots := 0, locals := 0 } : Room) (va_Pc [.ref mo, .int p1, .int p2, .int 0] (cmP D ct sz ([(rf_MO mo mw ma mf m0 m1 mu mv u0 u1 iz th mb mn mpt mbg mwr mwk mlf men), (rf_RW ct 0 mw 958 f)] ++ ws))) (va_Qi (fun (r : Int32) (u9 : va_W) => ty_V ct S ph u9 ∧ r = (f (97 + 37 * p1.toInt.toNat + 3 * p2.toInt.toNat + 0))) (cmB D ([(rf_MO mo mw ma mf m0 m1 mu mv u0 u1 iz th mb mn mpt mbg mwr mwk mlf men), (rf_RW ct 0 mw 958 f)] ++ ws) sz (fun (u9 : va_W) => ([(rf_MO mo mw ma mf m0 m1 mu mv u0 u1 iz th mb mn mpt mbg mwr mwk mlf men), (rf_RW ct 0 mw 958 f)] ++ u9))) (va_A ([(rf_MO mo mw ma mf m0 m1 mu mv u0 u1 iz th mb mn mpt mbg mwr mwk mlf men), (rf_RW ct 0 mw 958 f)] ++ ws) sz)) 0 0 (va_A ([(rf_MO mo mw ma mf m0 m1 mu mv u0 u1 iz th mb mn mpt mbg mwr mwk mlf men), (rf_RW ct 0 mw 958 f)] ++ ws) sz) := by
  refine Met.ofW (cc := cX11_stepOf) (maxL := 4) (ret := (some .int)) (by decide) rfl ?_
  intro p e s m args below meth c s₁ B hml hv
  obtain ⟨rfl, hsz, hP, hK, hD0, hX⟩ := hv
  have hx := B.exec
  have hb := B.bytes
  have hr := B.returns
  have hts := ws_all (atoms_spec (ws := ws_ yX11_stepOf cX11_stepOf 4 (some .int)) B.pre)
  have hown : s.vm.findClass RX11 = some m.cls := findClass_of_methodNamed B.named
  have hlocks := B.notSynchronized
  subst hsz
  have hD := hD0.self (sz := s.heap.size)
  generalize hAe : va_A ([(rf_MO mo mw ma mf m0 m1 mu mv u0 u1 iz th mb mn mpt mbg mwr mwk mlf men), (rf_RW ct 0 mw 958 f)] ++ ws) s.heap.size = A at hD hX ⊢
  have hA : ∀ q : Nat, s.heap.size ≤ q → A q := fun q h => by rw [← hAe]; exact Or.inr h
  have hS : va_S A s.heap s.heap [] := va_S.rf
  have hl := lv_entry ([.ref mo, .int p1, .int p2, .int 0]) (n := 4) (Nat.le_of_ble_eq_true rfl)
  rw [lg_entry_eq]
  generalize (lg_sl ([.ref mo, .int p1, .int p2, .int 0]) ++ List.replicate (4 - (lg_sl ([.ref mo, .int p1, .int p2, .int 0])).length) Slot.unset).toArray = ls at hl ⊢
  have hl : lv_has ls 4 [(0, .ref mo), (1, .int p1), (2, .int p2), (3, .int 0)] := hl
  refine lv_aload_n hx hb dX11_stepOf_0 rfl (lv_at hl 0 rfl) ?_
  refine va_get (v := .ref mw) (D := D) (ci := 11) (C := RX11) (T := TX11) (N := 19) hx hb hts in_X11 hown hK hP 0 rfl rfl 0 (by decide) (hts _ kl_RX11_9) (fun _ h9 => h9) rfl dX11_stepOf_1 ?_
  refine lv_bipush (v := 96) hx hb dX11_stepOf_4 (by decide) ?_
  refine lv_bipush (v := 37) hx hb dX11_stepOf_6 (by decide) ?_
  refine lv_iload_n hx hb dX11_stepOf_8 rfl (lv_at hl 1 rfl) ?_
  refine lv_imul hx hb dX11_stepOf_9 ?_
  refine lv_iadd hx hb dX11_stepOf_10 ?_
  refine lv_iconst (v := 1) hx hb dX11_stepOf_11 (by decide) ?_
  refine lv_iadd hx hb dX11_stepOf_12 ?_
  refine lv_iconst (v := 3) hx hb dX11_stepOf_13 (by decide) ?_
  refine lv_iload_n hx hb dX11_stepOf_14 rfl (lv_at hl 2 rfl) ?_
  refine lv_imul hx hb dX11_stepOf_15 ?_
  refine lv_iadd hx hb dX11_stepOf_16 ?_
  refine lv_iload_n hx hb dX11_stepOf_17 rfl (lv_at hl 3 rfl) ?_
  refine lv_iadd hx hb dX11_stepOf_18 ?_
  refine va_iald hx hb hK hP 1 0 rfl rfl (rf_in (rf_six hp hs (by decide)) (by have z9 : (0 : Int32).toInt = 0 := (by decide); omega)) dX11_stepOf_19 ?_
  exact W.iret (v := (f ((((96 + (37 * p1)) + 1) + (3 * p2)) + 0).toNatClampNeg)) hx hb hr (fun t ht hW => ⟨⟨(f ((((96 + (37 * p1)) + 1) + (3 * p2)) + 0).toNatClampNeg), ws, rfl, ⟨hT, (congrArg f (rf_nat (rf_six hp hs (by decide))))⟩, by rw [ht]; exact hP, by rw [hAe]; exact hD⟩, hS.F ht⟩) hS.2.2 dX11_stepOf_20
set_option maxRecDepth 100000 in
set_option maxHeartbeats 4000000 in
theorem m_stepOf_1 (l : Launch) (D : va_G) (ct : Nat → ClassId) (S : ty_S) (ws : va_W) (ph : va_W → Prop) (xx : Nat → Nat → Nat → Prop) (mo : Nat) (mw : Nat) (ma : Nat) (mf : Nat) (m0 : Nat) (m1 : Nat) (mu : Nat) (mv : Nat) (u0 : Nat) (u1 : Nat) (iz : Nat) (mb : Nat) (th : Int32) (mn : Int32) (mpt : Int32) (mbg : Int32) (mwr : Int32) (mwk : Int32) (mlf : Int32) (men : Int32) (f : Nat → Int32) (G : Nat → Int32) (cx : Int) (p1 : Int32) (p2 : Int32) (sz : Nat) (hT : ty_V ct S ph ws) (hph : ty_C ph xx) (hy1 : ty_y1 xx) (hR : rf_R G cx f) (hp : 0 ≤ p1.toInt ∧ p1.toInt < 4) (hs : 0 ≤ p2.toInt ∧ p2.toInt ≤ 12) : Met l yX11_stepOf (ws_ yX11_stepOf cX11_stepOf 4 (some .int)) ({ frames := 0, cells := 0, slots := 0, locals := 0 } : Room) (va_Pc [.ref mo, .int p1, .int p2, .int 1] (cmP D ct sz ([(rf_MO mo mw ma mf m0 m1 mu mv u0 u1 iz th mb mn mpt mbg mwr mwk mlf men), (rf_RW ct 0 mw 958 f)] ++ ws))) (va_Qi (fun (r : Int32) (u9 : va_W) => ty_V ct S ph u9 ∧ r = (f (97 + 37 * p1.toInt.toNat + 3 * p2.toInt.toNat + 1))) (cmB D ([(rf_MO mo mw ma mf m0 m1 mu mv u0 u1 iz th mb mn mpt mbg mwr mwk mlf men), (rf_RW ct 0 mw 958 f)] ++ ws) sz (fun (u9 : va_W) => ([(rf_MO mo mw ma mf m0 m1 mu mv u0 u1 iz th mb mn mpt mbg mwr mwk mlf men), (rf_RW ct 0 mw 958 f)] ++ u9))) (va_A ([(rf_MO mo mw ma mf m0 m1 mu mv u0 u1 iz th mb mn mpt mbg mwr mwk mlf men), (rf_RW ct 0 mw 958 f)] ++ ws) sz)) 0 0 (va_A ([(rf_MO mo mw ma mf m0 m1 mu mv u0 u1 iz th mb mn mpt mbg mwr mwk mlf men), (rf_RW ct 0 mw 958 f)] ++ ws) sz) := by
  refine Met.ofW (cc := cX11_stepOf) (maxL := 4) (ret := (some .int)) (by decide) rfl ?_
  intro p e s m args below meth c s₁ B hml hv
  obtain ⟨rfl, hsz, hP, hK, hD0, hX⟩ := hv
  have hx := B.exec
  have hb := B.bytes
  have hr := B.returns
  have hts := ws_all (atoms_spec (ws := ws_ yX11_stepOf cX11_stepOf 4 (some .int)) B.pre)
  have hown : s.vm.findClass RX11 = some m.cls := findClass_of_methodNamed B.named
  have hlocks := B.notSynchronized
  subst hsz
  have hD := hD0.self (sz := s.heap.size)
  generalize hAe : va_A ([(rf_MO mo mw ma mf m0 m1 mu mv u0 u1 iz th mb mn mpt mbg mwr mwk mlf men), (rf_RW ct 0 mw 958 f)] ++ ws) s.heap.size = A at hD hX ⊢
  have hA : ∀ q : Nat, s.heap.size ≤ q → A q := fun q h => by rw [← hAe]; exact Or.inr h
  have hS : va_S A s.heap s.heap [] := va_S.rf
  have hl := lv_entry ([.ref mo, .int p1, .int p2, .int 1]) (n := 4) (Nat.le_of_ble_eq_true rfl)
  rw [lg_entry_eq]
  generalize (lg_sl ([.ref mo, .int p1, .int p2, .int 1]) ++ List.replicate (4 - (lg_sl ([.ref mo, .int p1, .int p2, .int 1])).length) Slot.unset).toArray = ls at hl ⊢
  have hl : lv_has ls 4 [(0, .ref mo), (1, .int p1), (2, .int p2), (3, .int 1)] := hl
  refine lv_aload_n hx hb dX11_stepOf_0 rfl (lv_at hl 0 rfl) ?_
  refine va_get (v := .ref mw) (D := D) (ci := 11) (C := RX11) (T := TX11) (N := 19) hx hb hts in_X11 hown hK hP 0 rfl rfl 0 (by decide) (hts _ kl_RX11_9) (fun _ h9 => h9) rfl dX11_stepOf_1 ?_
  refine lv_bipush (v := 96) hx hb dX11_stepOf_4 (by decide) ?_
  refine lv_bipush (v := 37) hx hb dX11_stepOf_6 (by decide) ?_
  refine lv_iload_n hx hb dX11_stepOf_8 rfl (lv_at hl 1 rfl) ?_
  refine lv_imul hx hb dX11_stepOf_9 ?_
  refine lv_iadd hx hb dX11_stepOf_10 ?_
  refine lv_iconst (v := 1) hx hb dX11_stepOf_11 (by decide) ?_
  refine lv_iadd hx hb dX11_stepOf_12 ?_
  refine lv_iconst (v := 3) hx hb dX11_stepOf_13 (by decide) ?_
  refine lv_iload_n hx hb dX11_stepOf_14 rfl (lv_at hl 2 rfl) ?_
  refine lv_imul hx hb dX11_stepOf_15 ?_
  refine lv_iadd hx hb dX11_stepOf_16 ?_
  refine lv_iload_n hx hb dX11_stepOf_17 rfl (lv_at hl 3 rfl) ?_
  refine lv_iadd hx hb dX11_stepOf_18 ?_
  refine va_iald hx hb hK hP 1 0 rfl rfl (rf_in (rf_six hp hs (by decide)) (by have z9 : (1 : Int32).toInt = 1 := (by decide); omega)) dX11_stepOf_19 ?_
  exact W.iret (v := (f ((((96 + (37 * p1)) + 1) + (3 * p2)) + 1).toNatClampNeg)) hx hb hr (fun t ht hW => ⟨⟨(f ((((96 + (37 * p1)) + 1) + (3 * p2)) + 1).toNatClampNeg), ws, rfl, ⟨hT, (congrArg f (rf_nat (rf_six hp hs (by decide))))⟩, by rw [ht]; exact hP, by rw [hAe]; exact hD⟩, hS.F ht⟩) hS.2.2 dX11_stepOf_20
set_option maxRecDepth 100000 in
set_option maxHeartbeats 4000000 in
theorem m_stepOf_2 (l : Launch) (D : va_G) (ct : Nat → ClassId) (S : ty_S) (ws : va_W) (ph : va_W → Prop) (xx : Nat → Nat → Nat → Prop) (mo : Nat) (mw : Nat) (ma : Nat) (mf : Nat) (m0 : Nat) (m1 : Nat) (mu : Nat) (mv : Nat) (u0 : Nat) (u1 : Nat) (iz : Nat) (mb : Nat) (th : Int32) (mn : Int32) (mpt : Int32) (mbg : Int32) (mwr : Int32) (mwk : Int32) (mlf : Int32) (men : Int32) (f : Nat → Int32) (G : Nat → Int32) (cx : Int) (p1 : Int32) (p2 : Int32) (sz : Nat) (hT : ty_V ct S ph ws) (hph : ty_C ph xx) (hy1 : ty_y1 xx) (hR : rf_R G cx f) (hp : 0 ≤ p1.toInt ∧ p1.toInt < 4) (hs : 0 ≤ p2.toInt ∧ p2.toInt ≤ 12) : Met l yX11_stepOf (ws_ yX11_stepOf cX11_stepOf 4 (some .int)) ({ frames := 0, cells := 0, slots := 0, locals := 0 } : Room) (va_Pc [.ref mo, .int p1, .int p2, .int 2] (cmP D ct sz ([(rf_MO mo mw ma mf m0 m1 mu mv u0 u1 iz th mb mn mpt mbg mwr mwk mlf men), (rf_RW ct 0 mw 958 f)] ++ ws))) (va_Qi (fun (r : Int32) (u9 : va_W) => ty_V ct S ph u9 ∧ r = (f (97 + 37 * p1.toInt.toNat + 3 * p2.toInt.toNat + 2))) (cmB D ([(rf_MO mo mw ma mf m0 m1 mu mv u0 u1 iz th mb mn mpt mbg mwr mwk mlf men), (rf_RW ct 0 mw 958 f)] ++ ws) sz (fun (u9 : va_W) => ([(rf_MO mo mw ma mf m0 m1 mu mv u0 u1 iz th mb mn mpt mbg mwr mwk mlf men), (rf_RW ct 0 mw 958 f)] ++ u9))) (va_A ([(rf_MO mo mw ma mf m0 m1 mu mv u0 u1 iz th mb mn mpt mbg mwr mwk mlf men), (rf_RW ct 0 mw 958 f)] ++ ws) sz)) 0 0 (va_A ([(rf_MO mo mw ma mf m0 m1 mu mv u0 u1 iz th mb mn mpt mbg mwr mwk mlf men), (rf_RW ct 0 mw 958 f)] ++ ws) sz) := by
  refine Met.ofW (cc := cX11_stepOf) (maxL := 4) (ret := (some .int)) (by decide) rfl ?_
  intro p e s m args below meth c s₁ B hml hv
  obtain ⟨rfl, hsz, hP, hK, hD0, hX⟩ := hv
  have hx := B.exec
  have hb := B.bytes
  have hr := B.returns
  have hts := ws_all (atoms_spec (ws := ws_ yX11_stepOf cX11_stepOf 4 (some .int)) B.pre)
  have hown : s.vm.findClass RX11 = some m.cls := findClass_of_methodNamed B.named
  have hlocks := B.notSynchronized
  subst hsz
  have hD := hD0.self (sz := s.heap.size)
  generalize hAe : va_A ([(rf_MO mo mw ma mf m0 m1 mu mv u0 u1 iz th mb mn mpt mbg mwr mwk mlf men), (rf_RW ct 0 mw 958 f)] ++ ws) s.heap.size = A at hD hX ⊢
  have hA : ∀ q : Nat, s.heap.size ≤ q → A q := fun q h => by rw [← hAe]; exact Or.inr h
  have hS : va_S A s.heap s.heap [] := va_S.rf
  have hl := lv_entry ([.ref mo, .int p1, .int p2, .int 2]) (n := 4) (Nat.le_of_ble_eq_true rfl)
  rw [lg_entry_eq]
  generalize (lg_sl ([.ref mo, .int p1, .int p2, .int 2]) ++ List.replicate (4 - (lg_sl ([.ref mo, .int p1, .int p2, .int 2])).length) Slot.unset).toArray = ls at hl ⊢
  have hl : lv_has ls 4 [(0, .ref mo), (1, .int p1), (2, .int p2), (3, .int 2)] := hl
  refine lv_aload_n hx hb dX11_stepOf_0 rfl (lv_at hl 0 rfl) ?_
  refine va_get (v := .ref mw) (D := D) (ci := 11) (C := RX11) (T := TX11) (N := 19) hx hb hts in_X11 hown hK hP 0 rfl rfl 0 (by decide) (hts _ kl_RX11_9) (fun _ h9 => h9) rfl dX11_stepOf_1 ?_
  refine lv_bipush (v := 96) hx hb dX11_stepOf_4 (by decide) ?_
  refine lv_bipush (v := 37) hx hb dX11_stepOf_6 (by decide) ?_
  refine lv_iload_n hx hb dX11_stepOf_8 rfl (lv_at hl 1 rfl) ?_
  refine lv_imul hx hb dX11_stepOf_9 ?_
  refine lv_iadd hx hb dX11_stepOf_10 ?_
  refine lv_iconst (v := 1) hx hb dX11_stepOf_11 (by decide) ?_
  refine lv_iadd hx hb dX11_stepOf_12 ?_
  refine lv_iconst (v := 3) hx hb dX11_stepOf_13 (by decide) ?_
  refine lv_iload_n hx hb dX11_stepOf_14 rfl (lv_at hl 2 rfl) ?_
  refine lv_imul hx hb dX11_stepOf_15 ?_
  refine lv_iadd hx hb dX11_stepOf_16 ?_
  refine lv_iload_n hx hb dX11_stepOf_17 rfl (lv_at hl 3 rfl) ?_
  refine lv_iadd hx hb dX11_stepOf_18 ?_
  refine va_iald hx hb hK hP 1 0 rfl rfl (rf_in (rf_six hp hs (by decide)) (by have z9 : (2 : Int32).toInt = 2 := (by decide); omega)) dX11_stepOf_19 ?_
  exact W.iret (v := (f ((((96 + (37 * p1)) + 1) + (3 * p2)) + 2).toNatClampNeg)) hx hb hr (fun t ht hW => ⟨⟨(f ((((96 + (37 * p1)) + 1) + (3 * p2)) + 2).toNatClampNeg), ws, rfl, ⟨hT, (congrArg f (rf_nat (rf_six hp hs (by decide))))⟩, by rw [ht]; exact hP, by rw [hAe]; exact hD⟩, hS.F ht⟩) hS.2.2 dX11_stepOf_20
