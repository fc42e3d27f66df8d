def q_X11_watches (men : Int32) (f : Nat → Int32) (G : Nat → Int32) (su : Nat → Int64) (p1 : Int32) (men1 : Int32) (f1 : Nat → Int32) (su1 : Nat → Int64) : Prop := (∃ (f1_7 : Nat → Int32), f1_7 = upd f (244 + 54 * p1.toInt.toNat + 3) ((rf_of f p1 3) + 1) ∧ (∃ (r_15 : Int32), (q_X11_reasonNow f1_7 p1 r_15) ∧ ((r_15 ≤ (0 : Int32) ∧ (∃ (r_22 : Int32), (q_X11_isOver f1_7 p1 r_22) ∧ ((r_22 = (0 : Int32) ∧ (men1 = men ∧ f1 = f1_7 ∧ su1 = su)) ∨ (¬ r_22 = (0 : Int32) ∧ (∃ (f1_32 : Nat → Int32) (su1_33 : Nat → Int64), (q_X11_ends f1_7 su p1 f1_32 su1_33) ∧ (∃ (f1_49 : Nat → Int32), q_kp 718 17 f1_32 f1_49 ∧ (∃ (f1_63 : Nat → Int32) (su1_64 : Nat → Int64), (q_comes f1_49 G su1_33 p1 ((rf_of f1_49 p1 2) + 1) f1_63 su1_64) ∧ (men1 = (men + 1) ∧ f1 = f1_63 ∧ su1 = su1_64)))))))) ∨ (¬ r_15 ≤ (0 : Int32) ∧ (∃ (f1_76 : Nat → Int32), f1_76 = upd f1_7 (244 + 54 * p1.toInt.toNat + 0) (4 : Int32) ∧ (∃ (f1_87 : Nat → Int32), f1_87 = upd f1_76 (244 + 54 * p1.toInt.toNat + 10) r_15 ∧ (∃ (f1_98 : Nat → Int32), q_kp 718 17 f1_87 f1_98 ∧ (men1 = men ∧ f1 = f1_98 ∧ su1 = su))))))))
set_option maxRecDepth 100000 in
set_option maxHeartbeats 4000000 in
theorem m_X11_watches (l : Launch) (D : va_G) (ct : Nat → ClassId) (S : ty_S) (ws : va_W) (ph : va_W → Prop) (xx : Nat → Nat → Nat → Prop) (mo : Nat) (mw : Nat) (ma : Nat) (mf : Nat) (m0 : Nat) (m1 : Nat) (mu : Nat) (mv : Nat) (u0 : Nat) (u1 : Nat) (iz : Nat) (mb : Nat) (th : Int32) (mn : Int32) (mpt : Int32) (mbg : Int32) (mwr : Int32) (mwk : Int32) (mlf : Int32) (men : Int32) (f : Nat → Int32) (G : Nat → Int32) (su : Nat → Int64) (p1 : Int32) (sz : Nat) (hT : ty_V ct S ph ws) (hph : ty_C ph xx) (hy1 : ty_y1 xx) (hy11 : ty_y0 xx 11) (hR : rf_R G (-1) f) (hc : 0 ≤ p1.toInt ∧ p1.toInt < (G 9).toInt) (ho : rf_on G f p1) : Met l yX11_watches (ws_ yX11_watches cX11_watches 3 none) ({ frames := 5, cells := 0, slots := 0, locals := 118 } : Room) (va_Pc [.ref mo, .int p1] (cmP D ct sz ([(rf_MO mo mw ma mf m0 m1 mu mv u0 u1 iz th mb mn mpt mbg mwr mwk mlf men), (rf_RW ct 0 mw 958 f), (mu, .inl (ct 1, 42, .inr (.inl su)))] ++ ws))) (va_Qv (fun (u : va_W × Int32 × (Nat → Int32) × (Nat → Int64)) => match u with | (u9, men1, f1, su1) => ty_V ct S ph u9 ∧ (q_X11_watches men f G su p1 men1 f1 su1) ∧ rf_d (f 8) f f1 ∧ rf_R G (-1) f1) (cmB D ([(rf_MO mo mw ma mf m0 m1 mu mv u0 u1 iz th mb mn mpt mbg mwr mwk mlf men), (rf_RW ct 0 mw 958 f), (mu, .inl (ct 1, 42, .inr (.inl su)))] ++ ws) sz (fun (u : va_W × Int32 × (Nat → Int32) × (Nat → Int64)) => match u with | (u9, men1, f1, su1) => ([(rf_MO mo mw ma mf m0 m1 mu mv u0 u1 iz th mb mn mpt mbg mwr mwk mlf men1), (rf_RW ct 0 mw 958 f1), (mu, .inl (ct 1, 42, .inr (.inl su1)))] ++ u9))) (va_A ([(rf_MO mo mw ma mf m0 m1 mu mv u0 u1 iz th mb mn mpt mbg mwr mwk mlf men), (rf_RW ct 0 mw 958 f), (mu, .inl (ct 1, 42, .inr (.inl su)))] ++ ws) sz)) 0 0 (va_A ([(rf_MO mo mw ma mf m0 m1 mu mv u0 u1 iz th mb mn mpt mbg mwr mwk mlf men), (rf_RW ct 0 mw 958 f), (mu, .inl (ct 1, 42, .inr (.inl su)))] ++ ws) sz) := by
  refine Met.ofW (cc := cX11_watches) (maxL := 3) (ret := none) (by decide) rfl ?_
  intro p e s m args below meth c s₁ B hml hv
  obtain ⟨rfl, hsz, hP, hK, hD0, hX⟩ := hv
  have hx := B.exec
  have hb := B.bytes
  have hr := B.returns
  have hts := ws_all (atoms_spec (ws := ws_ yX11_watches cX11_watches 3 none) B.pre)
  have hown : s.vm.findClass RX11 = some m.cls := findClass_of_methodNamed B.named
  have hlocks := B.notSynchronized
  subst hsz
  have hD := hD0.self (sz := s.heap.size)
  generalize hAe : va_A ([(rf_MO mo mw ma mf m0 m1 mu mv u0 u1 iz th mb mn mpt mbg mwr mwk mlf men), (rf_RW ct 0 mw 958 f), (mu, .inl (ct 1, 42, .inr (.inl su)))] ++ ws) s.heap.size = A at hD hX ⊢
  have hA : ∀ q : Nat, s.heap.size ≤ q → A q := fun q h => by rw [← hAe]; exact Or.inr h
  have hS : va_S A s.heap s.heap [] := va_S.rf
  have hl := lv_entry ([.ref mo, .int p1]) (n := 3) (Nat.le_of_ble_eq_true rfl)
  rw [lg_entry_eq]
  generalize (lg_sl ([.ref mo, .int p1]) ++ List.replicate (3 - (lg_sl ([.ref mo, .int p1])).length) Slot.unset).toArray = ls at hl ⊢
  have hl : lv_has ls 3 [(0, .ref mo), (1, .int p1)] := hl
  refine lv_aload_n hx hb dX11_watches_0 rfl (lv_at hl 0 rfl) ?_
  refine lv_iload_n hx hb dX11_watches_1 rfl (lv_at hl 1 rfl) ?_
  refine lv_iconst (v := 3) hx hb dX11_watches_2 (by decide) ?_
  refine lv_aload_n hx hb dX11_watches_3 rfl (lv_at hl 0 rfl) ?_
  refine lv_iload_n hx hb dX11_watches_4 rfl (lv_at hl 1 rfl) ?_
  refine lv_iconst (v := 3) hx hb dX11_watches_5 (by decide) ?_
  obtain ⟨hP, hD⟩ := ty_opPD (E1 := [(mu, .inl (ct 1, 42, .inr (.inl su)))]) (E2 := [(rf_MO mo mw ma mf m0 m1 mu mv u0 u1 iz th mb mn mpt mbg mwr mwk mlf men), (rf_RW ct 0 mw 958 f)]) (n := 3) [2, 0, 1] hP hD rfl rfl (by decide +kernel) ty_mva
  refine ty_Ki hP hD hS hA (va_runV (As := [.int p1, .int 3]) (rest := [.int 3, .int p1, .ref mo]) ⟨hx, hb, hml, hown, hts⟩ (m_of_3 l D ct S ws ph xx mo mw ma mf m0 m1 mu mv u0 u1 iz mb th mn mpt mbg mwr mwk mlf men f G (-1) p1 _ hT hph hy1 hR hc) (cm_V 2 hts kc_X11_of ki_RX11 kl_RX11_209 kv_X11_of kx_X11_of kd_X11_of ⟨Nat.le_of_ble_eq_true rfl, Nat.le_of_ble_eq_true rfl⟩) (ty_preE (ci := 11) (q0 := 1) hP hK hD hS hA hX rfl rfl) rfl rfl hl.1 rfl (lv_room (Nat.le_of_ble_eq_true rfl)) dX11_watches_6 ⟨Nat.le_of_ble_eq_true rfl, Nat.le_of_ble_eq_true rfl⟩) (fun r_1 u H locs hw_2 hP hD hS => ?_)
  obtain ⟨ws_3, rfl⟩ : ∃ z, z = u := ⟨_, rfl⟩
  obtain ⟨hT, rfl⟩ := hw_2
  obtain ⟨hP, hD⟩ := ty_shPD (w2 := ([(mu, .inl (ct 1, 42, .inr (.inl su))), (rf_MO mo mw ma mf m0 m1 mu mv u0 u1 iz th mb mn mpt mbg mwr mwk mlf men), (rf_RW ct 0 mw 958 f)] ++ ws_3)) hP hD rfl
  refine lv_iconst (v := 1) hx hb dX11_watches_9 (by decide) ?_
  refine lv_iadd hx hb dX11_watches_10 ?_
  obtain ⟨hP, hD⟩ := ty_ipPD (E1 := [(mu, .inl (ct 1, 42, .inr (.inl su)))]) (E2 := [(rf_MO mo mw ma mf m0 m1 mu mv u0 u1 iz th mb mn mpt mbg mwr mwk mlf men), (rf_RW ct 0 mw 958 f)]) hP hD rfl ty_mva
  refine ty_Kv hP hD hS hA (va_runV (As := [.int p1, .int 3, .int ((rf_of f p1 3) + 1)]) (rest := []) ⟨hx, hb, hml, hown, hts⟩ (m_put_3 l D ct S ws_3 ph xx mo mw ma mf m0 m1 mu mv u0 u1 iz mb th mn mpt mbg mwr mwk mlf men f G (-1) p1 ((rf_of f p1 3) + 1) _ hT hph hy1 hR hc) (cm_V 3 hts kc_X11_put ki_RX11 kl_RX11_234 kv_X11_put kx_X11_put kd_X11_put ⟨Nat.le_of_ble_eq_true rfl, Nat.le_of_ble_eq_true rfl⟩) (ty_preE (ci := 11) (q0 := 1) hP hK hD hS hA hX rfl rfl) rfl rfl hl.1 rfl (lv_room (Nat.le_of_ble_eq_true rfl)) dX11_watches_11 ⟨Nat.le_of_ble_eq_true rfl, Nat.le_of_ble_eq_true rfl⟩) (fun u H locs hw_5 hP hD hS => ?_)
  obtain ⟨ws_6, f1_7⟩ := u
  obtain ⟨hT, hp_8⟩ := hw_5
  have hp_8 : rf_d (f 8) f f1_7 ∧ rf_R G (-1) f1_7 ∧ rf_sm f f1_7 ∧ f1_7 = upd f (244 + 54 * p1.toInt.toNat + 3) ((rf_of f p1 3) + 1) := hp_8
  obtain ⟨hd_9, hq_10⟩ := hp_8
  have hD_11 := rf_dt (rf_dr f) hd_9
  have hR_12 := hq_10.1
  have hM_13 := rf_smt (rf_smr f) hq_10.2.1
  have ho_14 := rf_ons hR hc hq_10.2.1 ho
  obtain ⟨hP, hD⟩ := ty_shPD (w2 := ([(mu, .inl (ct 1, 42, .inr (.inl su))), (rf_MO mo mw ma mf m0 m1 mu mv u0 u1 iz th mb mn mpt mbg mwr mwk mlf men), (rf_RW ct 0 mw 958 f1_7)] ++ ws_6)) hP hD rfl
  refine lv_aload_n hx hb dX11_watches_14 rfl (lv_at hl 0 rfl) ?_
  refine lv_iload_n hx hb dX11_watches_15 rfl (lv_at hl 1 rfl) ?_
  obtain ⟨hP, hD⟩ := ty_ipPD (E1 := [(mu, .inl (ct 1, 42, .inr (.inl su)))]) (E2 := [(rf_MO mo mw ma mf m0 m1 mu mv u0 u1 iz th mb mn mpt mbg mwr mwk mlf men), (rf_RW ct 0 mw 958 f1_7)]) hP hD rfl ty_mva
  refine ty_Ki hP hD hS hA (va_runV (As := [.int p1]) (rest := []) ⟨hx, hb, hml, hown, hts⟩ (m_X11_reasonNow l D ct S ws_6 ph xx mo mw ma mf m0 m1 mu mv u0 u1 iz mb th mn mpt mbg mwr mwk mlf men f1_7 G (-1) p1 _ hT hph hy1 hR_12 hc ho_14) (cm_V 1 hts kc_X11_reasonNow ki_RX11 kl_RX11_294 kv_X11_reasonNow kx_X11_reasonNow kd_X11_reasonNow ⟨Nat.le_of_ble_eq_true rfl, Nat.le_of_ble_eq_true rfl⟩) (ty_preE (ci := 11) (q0 := 1) hP hK hD hS hA hX rfl rfl) rfl rfl hl.1 rfl (lv_room (Nat.le_of_ble_eq_true rfl)) dX11_watches_16 ⟨Nat.le_of_ble_eq_true rfl, Nat.le_of_ble_eq_true rfl⟩) (fun r_15 u H locs hw_16 hP hD hS => ?_)
  obtain ⟨ws_17, rfl⟩ : ∃ z, z = u := ⟨_, rfl⟩
  obtain ⟨hT, hp_18⟩ := hw_16
  have hp_18 : (q_X11_reasonNow f1_7 p1 r_15) := hp_18
  obtain ⟨hP, hD⟩ := ty_shPD (w2 := ([(mu, .inl (ct 1, 42, .inr (.inl su))), (rf_MO mo mw ma mf m0 m1 mu mv u0 u1 iz th mb mn mpt mbg mwr mwk mlf men), (rf_RW ct 0 mw 958 f1_7)] ++ ws_17)) hP hD rfl
  refine lv_istore_n (lv' := [(2, .int r_15), (0, .ref mo), (1, .int p1)]) hx hb dX11_watches_19 rfl hl (by decide) rfl (fun ls hl => ?_)
  refine lv_iload_n hx hb dX11_watches_20 rfl (lv_at hl 0 rfl) ?_
  refine lv_if_le (tgt := 49) hx hb dX11_watches_21 (by decide) (fun hc_21 => ?_) (fun hc_21 => ?_)
  · refine lv_aload_n hx hb dX11_watches_49 rfl (lv_at hl 1 rfl) ?_
    refine lv_iload_n hx hb dX11_watches_50 rfl (lv_at hl 2 rfl) ?_
    obtain ⟨hP, hD⟩ := ty_ipPD (E1 := [(mu, .inl (ct 1, 42, .inr (.inl su)))]) (E2 := [(rf_MO mo mw ma mf m0 m1 mu mv u0 u1 iz th mb mn mpt mbg mwr mwk mlf men), (rf_RW ct 0 mw 958 f1_7)]) hP hD rfl ty_mva
    refine ty_Ki hP hD hS hA (va_runV (As := [.int p1]) (rest := []) ⟨hx, hb, hml, hown, hts⟩ (m_X11_isOver l D ct S ws_17 ph xx mo mw ma mf m0 m1 mu mv u0 u1 iz mb th mn mpt mbg mwr mwk mlf men f1_7 G (-1) p1 _ hT hph hy1 hR_12 hc ho_14) (cm_V 1 hts kc_X11_isOver ki_RX11 kl_RX11_258 kv_X11_isOver kx_X11_isOver kd_X11_isOver ⟨Nat.le_of_ble_eq_true rfl, Nat.le_of_ble_eq_true rfl⟩) (ty_preE (ci := 11) (q0 := 1) hP hK hD hS hA hX rfl rfl) rfl rfl hl.1 rfl (lv_room (Nat.le_of_ble_eq_true rfl)) dX11_watches_51 ⟨Nat.le_of_ble_eq_true rfl, Nat.le_of_ble_eq_true rfl⟩) (fun r_22 u H locs hw_23 hP hD hS => ?_)
    obtain ⟨ws_24, rfl⟩ : ∃ z, z = u := ⟨_, rfl⟩
    obtain ⟨hT, hp_25⟩ := hw_23
    have hp_25 : (q_X11_isOver f1_7 p1 r_22) := hp_25
    obtain ⟨hP, hD⟩ := ty_shPD (w2 := ([(mu, .inl (ct 1, 42, .inr (.inl su))), (rf_MO mo mw ma mf m0 m1 mu mv u0 u1 iz th mb mn mpt mbg mwr mwk mlf men), (rf_RW ct 0 mw 958 f1_7)] ++ ws_24)) hP hD rfl
    refine lv_if_eq (tgt := 97) hx hb dX11_watches_54 (by decide) (fun hc_28 => ?_) (fun hc_28 => ?_)
    · obtain ⟨hP, hD⟩ := ty_ordPD (E2 := [(rf_MO mo mw ma mf m0 m1 mu mv u0 u1 iz th mb mn mpt mbg mwr mwk mlf men), (rf_RW ct 0 mw 958 f1_7), (mu, .inl (ct 1, 42, .inr (.inl su)))]) (n := 3) [1, 2, 0] hP hD rfl rfl (by decide +kernel)
      exact W.vret hx hb hr (fun t ht hW => ⟨⟨(ws_24, men, f1_7, su), rfl, ⟨hT, ⟨⟨f1_7, hq_10.2.2, ⟨r_15, hp_18, (Or.inl ⟨hc_21, ⟨r_22, hp_25, (Or.inl ⟨hc_28, ⟨rfl, rfl, rfl⟩⟩)⟩⟩)⟩⟩, ⟨hD_11, hR_12⟩⟩⟩, by rw [ht]; exact hP, by rw [hAe]; exact hD⟩, hS.F ht⟩) hS.2.2 dX11_watches_97
    · refine lv_aload_n hx hb dX11_watches_57 rfl (lv_at hl 1 rfl) ?_
      refine lv_iload_n hx hb dX11_watches_58 rfl (lv_at hl 2 rfl) ?_
      obtain ⟨hP, hD⟩ := ty_opPD (E1 := []) (E2 := [(rf_MO mo mw ma mf m0 m1 mu mv u0 u1 iz th mb mn mpt mbg mwr mwk mlf men), (rf_RW ct 0 mw 958 f1_7), (mu, .inl (ct 1, 42, .inr (.inl su)))]) (n := 3) [1, 2, 0] hP hD rfl rfl (by decide +kernel) ty_mva
      refine ty_Kv hP hD hS hA (va_runV (As := [.int p1]) (rest := []) ⟨hx, hb, hml, hown, hts⟩ (m_X11_ends l D ct S ws_24 ph xx mo mw ma mf m0 m1 mu mv u0 u1 iz mb th mn mpt mbg mwr mwk mlf men f1_7 G (-1) su p1 _ hT hph hy1 hy11 hR_12 hc ho_14) (cm_V 1 hts kc_X11_ends ki_RX11 kl_RX11_297 kv_X11_ends kx_X11_ends kd_X11_ends ⟨Nat.le_of_ble_eq_true rfl, Nat.le_of_ble_eq_true rfl⟩) (ty_preE (ci := 11) (q0 := 0) hP hK hD hS hA hX rfl rfl) rfl rfl hl.1 rfl (lv_room (Nat.le_of_ble_eq_true rfl)) dX11_watches_59 ⟨Nat.le_of_ble_eq_true rfl, Nat.le_of_ble_eq_true rfl⟩) (fun u H locs hw_30 hP hD hS => ?_)
      obtain ⟨ws_31, f1_32, su1_33⟩ := u
      obtain ⟨hT, hp_34⟩ := hw_30
      have hp_34 : (q_X11_ends f1_7 su p1 f1_32 su1_33) ∧ rf_d (f1_7 8) f1_7 f1_32 ∧ rf_R G (-1) f1_32 ∧ rf_sm f1_7 f1_32 := hp_34
      obtain ⟨hq_35, hp_36⟩ := hp_34
      obtain ⟨hd_37, hq_38⟩ := hp_36
      have hD_39 := rf_dt hD_11 hd_37
      have hR_40 := hq_38.1
      have hM_41 := rf_smt hM_13 hq_38.2
      have ho_42 := rf_ons hR_12 hc hq_38.2 ho_14
      obtain ⟨hP, hD⟩ := ty_shPD (w2 := ([(rf_MO mo mw ma mf m0 m1 mu mv u0 u1 iz th mb mn mpt mbg mwr mwk mlf men), (rf_RW ct 0 mw 958 f1_32), (mu, .inl (ct 1, 42, .inr (.inl su1_33)))] ++ ws_31)) hP hD rfl
      refine lv_aload_n hx hb dX11_watches_62 rfl (lv_at hl 1 rfl) ?_
      refine lv_dup hx hb dX11_watches_63 rfl ?_
      refine va_get (v := .int men) (D := D) (ci := 11) (C := RX11) (T := TX11) (N := 19) hx hb hts in_X11 hown hK hP 0 rfl rfl 18 (by decide) (hts _ kl_RX11_300) (fun _ h9 => h9) rfl dX11_watches_64 ?_
      refine lv_iconst (v := 1) hx hb dX11_watches_67 (by decide) ?_
      refine lv_iadd hx hb dX11_watches_68 ?_
      refine va_put (v := .int (men + 1)) (ty := .int) (D := D) (ci := 11) (C := RX11) (T := TX11) (N := 19) hx hb hts in_X11 tyX11 tyX11_ok nmX11 hown hK hP hD hS 0 rfl rfl 18 (by decide) (hts _ kl_RX11_300) (fun _ h9 => h9) rfl (by decide +kernel) rfl rfl (Nat.le_of_ble_eq_true rfl) dX11_watches_69 (fun H locs hP hD hS => ?_)
      have hP : va_P D vwCl ([(rf_MO mo mw ma mf m0 m1 mu mv u0 u1 iz th mb mn mpt mbg mwr mwk mlf (men + 1)), (rf_RW ct 0 mw 958 f1_32), (mu, .inl (ct 1, 42, .inr (.inl su1_33)))] ++ ws_31) H := hP
      have hD : va_D A ([(rf_MO mo mw ma mf m0 m1 mu mv u0 u1 iz th mb mn mpt mbg mwr mwk mlf (men + 1)), (rf_RW ct 0 mw 958 f1_32), (mu, .inl (ct 1, 42, .inr (.inl su1_33)))] ++ ws_31) := hD
      refine lv_aload_n hx hb dX11_watches_72 rfl (lv_at hl 1 rfl) ?_
      refine lv_iload_n hx hb dX11_watches_73 rfl (lv_at hl 2 rfl) ?_
      refine lv_iconst (v := 1) hx hb dX11_watches_74 (by decide) ?_
      refine lv_aload_n hx hb dX11_watches_75 rfl (lv_at hl 1 rfl) ?_
      refine lv_iload_n hx hb dX11_watches_76 rfl (lv_at hl 2 rfl) ?_
      refine lv_iconst (v := 2) hx hb dX11_watches_77 (by decide) ?_
      obtain ⟨hP, hD⟩ := ty_opPD (E1 := [(mu, .inl (ct 1, 42, .inr (.inl su1_33)))]) (E2 := [(rf_MO mo mw ma mf m0 m1 mu mv u0 u1 iz th mb mn mpt mbg mwr mwk mlf (men + 1)), (rf_RW ct 0 mw 958 f1_32)]) (n := 3) [2, 0, 1] hP hD rfl rfl (by decide +kernel) ty_mva
      refine ty_Ki hP hD hS hA (va_runV (As := [.int p1, .int 2]) (rest := [.int 1, .int p1, .ref mo]) ⟨hx, hb, hml, hown, hts⟩ (m_of_2 l D ct S ws_31 ph xx mo mw ma mf m0 m1 mu mv u0 u1 iz mb th mn mpt mbg mwr mwk mlf (men + 1) f1_32 G (-1) p1 _ hT hph hy1 hR_40 hc) (cm_V 2 hts kc_X11_of ki_RX11 kl_RX11_209 kv_X11_of kx_X11_of kd_X11_of ⟨Nat.le_of_ble_eq_true rfl, Nat.le_of_ble_eq_true rfl⟩) (ty_preE (ci := 11) (q0 := 1) hP hK hD hS hA hX rfl rfl) rfl rfl hl.1 rfl (lv_room (Nat.le_of_ble_eq_true rfl)) dX11_watches_78 ⟨Nat.le_of_ble_eq_true rfl, Nat.le_of_ble_eq_true rfl⟩) (fun r_43 u H locs hw_44 hP hD hS => ?_)
      obtain ⟨ws_45, rfl⟩ : ∃ z, z = u := ⟨_, rfl⟩
      obtain ⟨hT, rfl⟩ := hw_44
      obtain ⟨hP, hD⟩ := ty_shPD (w2 := ([(mu, .inl (ct 1, 42, .inr (.inl su1_33))), (rf_MO mo mw ma mf m0 m1 mu mv u0 u1 iz th mb mn mpt mbg mwr mwk mlf (men + 1)), (rf_RW ct 0 mw 958 f1_32)] ++ ws_45)) hP hD rfl
      obtain ⟨hP, hD⟩ := ty_ipPD (E1 := [(mu, .inl (ct 1, 42, .inr (.inl su1_33)))]) (E2 := [(rf_MO mo mw ma mf m0 m1 mu mv u0 u1 iz th mb mn mpt mbg mwr mwk mlf (men + 1)), (rf_RW ct 0 mw 958 f1_32)]) hP hD rfl ty_mva
      refine ty_Kv hP hD hS hA (va_runV (As := [.int p1, .int 1, .int (rf_of f1_32 p1 2)]) (rest := []) ⟨hx, hb, hml, hown, hts⟩ (m_X11_notes l D ct S ws_45 ph xx mo mw ma mf m0 m1 mu mv u0 u1 iz mb th mn mpt mbg mwr mwk mlf (men + 1) f1_32 G (-1) p1 (1 : Int32) (rf_of f1_32 p1 2) _ hT hph hy1 hR_40) (cm_V 3 hts kc_X11_notes ki_RX11 kl_RX11_282 kv_X11_notes kx_X11_notes kd_X11_notes ⟨Nat.le_of_ble_eq_true rfl, Nat.le_of_ble_eq_true rfl⟩) (ty_preE (ci := 11) (q0 := 1) hP hK hD hS hA hX rfl rfl) rfl rfl hl.1 rfl (lv_room (Nat.le_of_ble_eq_true rfl)) dX11_watches_81 ⟨Nat.le_of_ble_eq_true rfl, Nat.le_of_ble_eq_true rfl⟩) (fun u H locs hw_47 hP hD hS => ?_)
      obtain ⟨ws_48, f1_49⟩ := u
      obtain ⟨hT, hp_50⟩ := hw_47
      have hp_50 : rf_d (f1_32 8) f1_32 f1_49 ∧ rf_R G (-1) f1_49 ∧ rf_sm f1_32 f1_49 ∧ q_kp 718 17 f1_32 f1_49 := hp_50
      obtain ⟨hd_51, hq_52⟩ := hp_50
      have hD_53 := rf_dt hD_39 hd_51
      have hR_54 := hq_52.1
      have hM_55 := rf_smt hM_41 hq_52.2.1
      have ho_56 := rf_ons hR_40 hc hq_52.2.1 ho_42
      obtain ⟨hP, hD⟩ := ty_shPD (w2 := ([(mu, .inl (ct 1, 42, .inr (.inl su1_33))), (rf_MO mo mw ma mf m0 m1 mu mv u0 u1 iz th mb mn mpt mbg mwr mwk mlf (men + 1)), (rf_RW ct 0 mw 958 f1_49)] ++ ws_48)) hP hD rfl
      refine lv_aload_n hx hb dX11_watches_84 rfl (lv_at hl 1 rfl) ?_
      refine lv_iload_n hx hb dX11_watches_85 rfl (lv_at hl 2 rfl) ?_
      refine lv_aload_n hx hb dX11_watches_86 rfl (lv_at hl 1 rfl) ?_
      refine lv_iload_n hx hb dX11_watches_87 rfl (lv_at hl 2 rfl) ?_
      refine lv_iconst (v := 2) hx hb dX11_watches_88 (by decide) ?_
      obtain ⟨hP, hD⟩ := ty_ipPD (E1 := [(mu, .inl (ct 1, 42, .inr (.inl su1_33)))]) (E2 := [(rf_MO mo mw ma mf m0 m1 mu mv u0 u1 iz th mb mn mpt mbg mwr mwk mlf (men + 1)), (rf_RW ct 0 mw 958 f1_49)]) hP hD rfl ty_mva
      refine ty_Ki hP hD hS hA (va_runV (As := [.int p1, .int 2]) (rest := [.int p1, .ref mo]) ⟨hx, hb, hml, hown, hts⟩ (m_of_2 l D ct S ws_48 ph xx mo mw ma mf m0 m1 mu mv u0 u1 iz mb th mn mpt mbg mwr mwk mlf (men + 1) f1_49 G (-1) p1 _ hT hph hy1 hR_54 hc) (cm_V 2 hts kc_X11_of ki_RX11 kl_RX11_209 kv_X11_of kx_X11_of kd_X11_of ⟨Nat.le_of_ble_eq_true rfl, Nat.le_of_ble_eq_true rfl⟩) (ty_preE (ci := 11) (q0 := 1) hP hK hD hS hA hX rfl rfl) rfl rfl hl.1 rfl (lv_room (Nat.le_of_ble_eq_true rfl)) dX11_watches_89 ⟨Nat.le_of_ble_eq_true rfl, Nat.le_of_ble_eq_true rfl⟩) (fun r_57 u H locs hw_58 hP hD hS => ?_)
      obtain ⟨ws_59, rfl⟩ : ∃ z, z = u := ⟨_, rfl⟩
      obtain ⟨hT, rfl⟩ := hw_58
      obtain ⟨hP, hD⟩ := ty_shPD (w2 := ([(mu, .inl (ct 1, 42, .inr (.inl su1_33))), (rf_MO mo mw ma mf m0 m1 mu mv u0 u1 iz th mb mn mpt mbg mwr mwk mlf (men + 1)), (rf_RW ct 0 mw 958 f1_49)] ++ ws_59)) hP hD rfl
      refine lv_iconst (v := 1) hx hb dX11_watches_92 (by decide) ?_
      refine lv_iadd hx hb dX11_watches_93 ?_
      obtain ⟨hP, hD⟩ := ty_opPD (E1 := []) (E2 := [(rf_MO mo mw ma mf m0 m1 mu mv u0 u1 iz th mb mn mpt mbg mwr mwk mlf (men + 1)), (rf_RW ct 0 mw 958 f1_49), (mu, .inl (ct 1, 42, .inr (.inl su1_33)))]) (n := 3) [1, 2, 0] hP hD rfl rfl (by decide +kernel) ty_mva
      refine ty_Kv hP hD hS hA (va_runV (As := [.int p1, .int ((rf_of f1_49 p1 2) + 1)]) (rest := []) ⟨hx, hb, hml, hown, hts⟩ (m_comes l D ct S ws_59 ph xx mo mw ma mf m0 m1 mu mv u0 u1 iz mb th mn mpt mbg mwr mwk mlf (men + 1) f1_49 G (-1) su1_33 p1 ((rf_of f1_49 p1 2) + 1) _ hT hph hy1 hy11 hR_54 hc (Or.inl rfl) ho_56.1 (rf_on1 hR_54 ho_56)) (cm_V 2 hts kc_X11_comes ki_RX11 kl_RX11_291 kv_X11_comes kx_X11_comes kd_X11_comes ⟨Nat.le_of_ble_eq_true rfl, Nat.le_of_ble_eq_true rfl⟩) (ty_preE (ci := 11) (q0 := 0) hP hK hD hS hA hX rfl rfl) rfl rfl hl.1 rfl (lv_room (Nat.le_of_ble_eq_true rfl)) dX11_watches_94 ⟨Nat.le_of_ble_eq_true rfl, Nat.le_of_ble_eq_true rfl⟩) (fun u H locs hw_61 hP hD hS => ?_)
      obtain ⟨ws_62, f1_63, su1_64⟩ := u
      obtain ⟨hT, hp_65⟩ := hw_61
      have hp_65 : (q_comes f1_49 G su1_33 p1 ((rf_of f1_49 p1 2) + 1) f1_63 su1_64) ∧ rf_d (f1_49 8) f1_49 f1_63 ∧ rf_R G (-1) f1_63 := hp_65
      obtain ⟨hq_66, hp_67⟩ := hp_65
      obtain ⟨hd_68, hq_69⟩ := hp_67
      have hD_70 := rf_dt hD_53 hd_68
      have hR_71 := hq_69
      obtain ⟨hP, hD⟩ := ty_shPD (w2 := ([(rf_MO mo mw ma mf m0 m1 mu mv u0 u1 iz th mb mn mpt mbg mwr mwk mlf (men + 1)), (rf_RW ct 0 mw 958 f1_63), (mu, .inl (ct 1, 42, .inr (.inl su1_64)))] ++ ws_62)) hP hD rfl
      exact W.vret hx hb hr (fun t ht hW => ⟨⟨(ws_62, (men + 1), f1_63, su1_64), rfl, ⟨hT, ⟨⟨f1_7, hq_10.2.2, ⟨r_15, hp_18, (Or.inl ⟨hc_21, ⟨r_22, hp_25, (Or.inr ⟨hc_28, ⟨f1_32, su1_33, hq_35, ⟨f1_49, hq_52.2.2, ⟨f1_63, su1_64, hq_66, ⟨rfl, rfl, rfl⟩⟩⟩⟩⟩)⟩⟩)⟩⟩, ⟨hD_70, hR_71⟩⟩⟩, by rw [ht]; exact hP, by rw [hAe]; exact hD⟩, hS.F ht⟩) hS.2.2 dX11_watches_97
  · refine lv_aload_n hx hb dX11_watches_24 rfl (lv_at hl 1 rfl) ?_
    refine lv_iload_n hx hb dX11_watches_25 rfl (lv_at hl 2 rfl) ?_
    refine lv_iconst (v := 0) hx hb dX11_watches_26 (by decide) ?_
    refine lv_iconst (v := 4) hx hb dX11_watches_27 (by decide) ?_
    obtain ⟨hP, hD⟩ := ty_ipPD (E1 := [(mu, .inl (ct 1, 42, .inr (.inl su)))]) (E2 := [(rf_MO mo mw ma mf m0 m1 mu mv u0 u1 iz th mb mn mpt mbg mwr mwk mlf men), (rf_RW ct 0 mw 958 f1_7)]) hP hD rfl ty_mva
    refine ty_Kv hP hD hS hA (va_runV (As := [.int p1, .int 0, .int 4]) (rest := []) ⟨hx, hb, hml, hown, hts⟩ (m_put_0 l D ct S ws_17 ph xx mo mw ma mf m0 m1 mu mv u0 u1 iz mb th mn mpt mbg mwr mwk mlf men f1_7 G (-1) p1 (4 : Int32) _ hT hph hy1 hR_12 hc (Or.inl rfl)) (cm_V 3 hts kc_X11_put ki_RX11 kl_RX11_234 kv_X11_put kx_X11_put kd_X11_put ⟨Nat.le_of_ble_eq_true rfl, Nat.le_of_ble_eq_true rfl⟩) (ty_preE (ci := 11) (q0 := 1) hP hK hD hS hA hX rfl rfl) rfl rfl hl.1 rfl (lv_room (Nat.le_of_ble_eq_true rfl)) dX11_watches_28 ⟨Nat.le_of_ble_eq_true rfl, Nat.le_of_ble_eq_true rfl⟩) (fun u H locs hw_74 hP hD hS => ?_)
    obtain ⟨ws_75, f1_76⟩ := u
    obtain ⟨hT, hp_77⟩ := hw_74
    have hp_77 : rf_d (f1_7 8) f1_7 f1_76 ∧ rf_R G p1.toInt f1_76 ∧ f1_76 = upd f1_7 (244 + 54 * p1.toInt.toNat + 0) (4 : Int32) := hp_77
    obtain ⟨hd_78, hq_79⟩ := hp_77
    have hD_80 := rf_dt hD_11 hd_78
    have hR_81 := hq_79.1
    obtain ⟨hP, hD⟩ := ty_shPD (w2 := ([(mu, .inl (ct 1, 42, .inr (.inl su))), (rf_MO mo mw ma mf m0 m1 mu mv u0 u1 iz th mb mn mpt mbg mwr mwk mlf men), (rf_RW ct 0 mw 958 f1_76)] ++ ws_75)) hP hD rfl
    have pg_83 : rf_of f1_76 p1 0 = 4 := by rw [hq_79.2]; exact rf_eq
    refine lv_aload_n hx hb dX11_watches_31 rfl (lv_at hl 1 rfl) ?_
    refine lv_iload_n hx hb dX11_watches_32 rfl (lv_at hl 2 rfl) ?_
    refine lv_bipush (v := 10) hx hb dX11_watches_33 (by decide) ?_
    refine lv_iload_n hx hb dX11_watches_35 rfl (lv_at hl 0 rfl) ?_
    obtain ⟨hP, hD⟩ := ty_ipPD (E1 := [(mu, .inl (ct 1, 42, .inr (.inl su)))]) (E2 := [(rf_MO mo mw ma mf m0 m1 mu mv u0 u1 iz th mb mn mpt mbg mwr mwk mlf men), (rf_RW ct 0 mw 958 f1_76)]) hP hD rfl ty_mva
    refine ty_Kv hP hD hS hA (va_runV (As := [.int p1, .int 10, .int r_15]) (rest := []) ⟨hx, hb, hml, hown, hts⟩ (m_put_10 l D ct S ws_75 ph xx mo mw ma mf m0 m1 mu mv u0 u1 iz mb th mn mpt mbg mwr mwk mlf men f1_76 G p1.toInt p1 r_15 _ hT hph hy1 hR_81 hc) (cm_V 3 hts kc_X11_put ki_RX11 kl_RX11_234 kv_X11_put kx_X11_put kd_X11_put ⟨Nat.le_of_ble_eq_true rfl, Nat.le_of_ble_eq_true rfl⟩) (ty_preE (ci := 11) (q0 := 1) hP hK hD hS hA hX rfl rfl) rfl rfl hl.1 rfl (lv_room (Nat.le_of_ble_eq_true rfl)) dX11_watches_36 ⟨Nat.le_of_ble_eq_true rfl, Nat.le_of_ble_eq_true rfl⟩) (fun u H locs hw_85 hP hD hS => ?_)
    obtain ⟨ws_86, f1_87⟩ := u
    obtain ⟨hT, hp_88⟩ := hw_85
    have hp_88 : rf_d (f1_76 8) f1_76 f1_87 ∧ rf_R G p1.toInt f1_87 ∧ rf_sm f1_76 f1_87 ∧ f1_87 = upd f1_76 (244 + 54 * p1.toInt.toNat + 10) r_15 := hp_88
    obtain ⟨hd_89, hq_90⟩ := hp_88
    have hD_91 := rf_dt hD_80 hd_89
    have hR_92 := hq_90.1
    have pg_94 := (rf_smof (rf_c6 hR_81 hc) hq_90.2.1 (k := 0) (by decide)).trans pg_83
    obtain ⟨hP, hD⟩ := ty_shPD (w2 := ([(mu, .inl (ct 1, 42, .inr (.inl su))), (rf_MO mo mw ma mf m0 m1 mu mv u0 u1 iz th mb mn mpt mbg mwr mwk mlf men), (rf_RW ct 0 mw 958 f1_87)] ++ ws_86)) hP hD rfl
    refine lv_aload_n hx hb dX11_watches_39 rfl (lv_at hl 1 rfl) ?_
    refine lv_iload_n hx hb dX11_watches_40 rfl (lv_at hl 2 rfl) ?_
    refine lv_iconst (v := 3) hx hb dX11_watches_41 (by decide) ?_
    refine lv_iload_n hx hb dX11_watches_42 rfl (lv_at hl 0 rfl) ?_
    obtain ⟨hP, hD⟩ := ty_ipPD (E1 := [(mu, .inl (ct 1, 42, .inr (.inl su)))]) (E2 := [(rf_MO mo mw ma mf m0 m1 mu mv u0 u1 iz th mb mn mpt mbg mwr mwk mlf men), (rf_RW ct 0 mw 958 f1_87)]) hP hD rfl ty_mva
    refine ty_Kv hP hD hS hA (va_runV (As := [.int p1, .int 3, .int r_15]) (rest := []) ⟨hx, hb, hml, hown, hts⟩ (m_X11_notes l D ct S ws_86 ph xx mo mw ma mf m0 m1 mu mv u0 u1 iz mb th mn mpt mbg mwr mwk mlf men f1_87 G p1.toInt p1 (3 : Int32) r_15 _ hT hph hy1 hR_92) (cm_V 3 hts kc_X11_notes ki_RX11 kl_RX11_282 kv_X11_notes kx_X11_notes kd_X11_notes ⟨Nat.le_of_ble_eq_true rfl, Nat.le_of_ble_eq_true rfl⟩) (ty_preE (ci := 11) (q0 := 1) hP hK hD hS hA hX rfl rfl) rfl rfl hl.1 rfl (lv_room (Nat.le_of_ble_eq_true rfl)) dX11_watches_43 ⟨Nat.le_of_ble_eq_true rfl, Nat.le_of_ble_eq_true rfl⟩) (fun u H locs hw_96 hP hD hS => ?_)
    obtain ⟨ws_97, f1_98⟩ := u
    obtain ⟨hT, hp_99⟩ := hw_96
    have hp_99 : rf_d (f1_87 8) f1_87 f1_98 ∧ rf_R G p1.toInt f1_98 ∧ rf_sm f1_87 f1_98 ∧ q_kp 718 17 f1_87 f1_98 := hp_99
    obtain ⟨hd_100, hq_101⟩ := hp_99
    have hD_102 := rf_dt hD_91 hd_100
    have hR_103 := hq_101.1
    have pg_105 := (rf_smof (rf_c6 hR_92 hc) hq_101.2.1 (k := 0) (by decide)).trans pg_94
    obtain ⟨hP, hD⟩ := ty_shPD (w2 := ([(mu, .inl (ct 1, 42, .inr (.inl su))), (rf_MO mo mw ma mf m0 m1 mu mv u0 u1 iz th mb mn mpt mbg mwr mwk mlf men), (rf_RW ct 0 mw 958 f1_98)] ++ ws_97)) hP hD rfl
    refine lv_goto (tgt := 97) hx hb dX11_watches_46 (by decide) ?_
    have hR_106 := rf_back9 hc.1 hR_103 (Or.inr rfl) (rf_runno (by rw [pg_105]; decide) (by rw [pg_105]; decide))
    obtain ⟨hP, hD⟩ := ty_ordPD (E2 := [(rf_MO mo mw ma mf m0 m1 mu mv u0 u1 iz th mb mn mpt mbg mwr mwk mlf men), (rf_RW ct 0 mw 958 f1_98), (mu, .inl (ct 1, 42, .inr (.inl su)))]) (n := 3) [1, 2, 0] hP hD rfl rfl (by decide +kernel)
    exact W.vret hx hb hr (fun t ht hW => ⟨⟨(ws_97, men, f1_98, su), rfl, ⟨hT, ⟨⟨f1_7, hq_10.2.2, ⟨r_15, hp_18, (Or.inr ⟨hc_21, ⟨f1_76, hq_79.2, ⟨f1_87, hq_90.2.2, ⟨f1_98, hq_101.2.2, ⟨rfl, rfl, rfl⟩⟩⟩⟩⟩)⟩⟩, ⟨hD_102, hR_106⟩⟩⟩, by rw [ht]; exact hP, by rw [hAe]; exact hD⟩, hS.F ht⟩) hS.2.2 dX11_watches_97
def q_X11_goes (men : Int32) (f : Nat → Int32) (G : Nat → Int32) (su : Nat → Int64) (p1 : Int32) (men1 : Int32) (f1 : Nat → Int32) (su1 : Nat → Int64) : Prop := (∃ (r_7 : Int32), (q_X11_currentOf f p1 r_7) ∧ (∃ (f1_16 : Nat → Int32) (su1_17 : Nat → Int64), (q_X11_flows f su p1 r_7 f1_16 su1_17) ∧ (∃ (r_26 : Int32), (q_X11_filled f1_16 p1 r_26) ∧ (∃ (f1_38 : Nat → Int32), f1_38 = upd f1_16 (244 + 54 * p1.toInt.toNat + (44 + (if (r_26 / 100) < 9 then (r_26 / 100) else 9)).toInt.toNat) ((rf_of f1_16 p1 (44 + (if (r_26 / 100) < 9 then (r_26 / 100) else 9)).toInt.toNat) + 1) ∧ (((rf_of f1_38 p1 0) = (1 : Int32) ∧ ((¬ (rf_of f1_38 p1 3) = (0 : Int32) ∧ (∃ (f1_60 : Nat → Int32), (q_X11_warns f1_38 p1 f1_60) ∧ (∃ (men1_73 : Int32) (f1_74 : Nat → Int32) (su1_75 : Nat → Int64), (q_X11_watches men f1_60 G su1_17 p1 men1_73 f1_74 su1_75) ∧ (men1 = men1_73 ∧ f1 = f1_74 ∧ su1 = su1_75)))) ∨ ((rf_of f1_38 p1 3) = (0 : Int32) ∧ ((((rf_of f1_38 p1 4) - (rf_of f p1 4)) = (0 : Int32) ∧ (∃ (f1_88 : Nat → Int32), (q_X11_warns f1_38 p1 f1_88) ∧ (∃ (men1_101 : Int32) (f1_102 : Nat → Int32) (su1_103 : Nat → Int64), (q_X11_watches men f1_88 G su1_17 p1 men1_101 f1_102 su1_103) ∧ (men1 = men1_101 ∧ f1 = f1_102 ∧ su1 = su1_103)))) ∨ (¬ ((rf_of f1_38 p1 4) - (rf_of f p1 4)) = (0 : Int32) ∧ (∃ (f1_118 : Nat → Int32), f1_118 = upd f1_38 (244 + 54 * p1.toInt.toNat + 38) ((((rf_of f1_38 p1 5) - (rf_of f p1 5)) * 1000) / ((rf_of f1_38 p1 4) - (rf_of f p1 4))) ∧ (∃ (f1_129 : Nat → Int32), (q_X11_warns f1_118 p1 f1_129) ∧ (∃ (men1_142 : Int32) (f1_143 : Nat → Int32) (su1_144 : Nat → Int64), (q_X11_watches men f1_129 G su1_17 p1 men1_142 f1_143 su1_144) ∧ (men1 = men1_142 ∧ f1 = f1_143 ∧ su1 = su1_144))))))))) ∨ (¬ (rf_of f1_38 p1 0) = (1 : Int32) ∧ (∃ (f1_156 : Nat → Int32), f1_156 = upd f1_38 (244 + 54 * p1.toInt.toNat + 37) (0 : Int32) ∧ (men1 = men ∧ f1 = f1_156 ∧ su1 = su1_17))))))))
set_option maxRecDepth 100000 in
set_option maxHeartbeats 4000000 in
theorem m_X11_goes (l : Launch) (D : va_G) (ct : Nat → ClassId) (S : ty_S) (ws : va_W) (ph : va_W → Prop) (xx : Nat → Nat → Nat → Prop) (mo : Nat) (mw : Nat) (ma : Nat) (mf : Nat) (m0 : Nat) (m1 : Nat) (mu : Nat) (mv : Nat) (u0 : Nat) (u1 : Nat) (iz : Nat) (mb : Nat) (th : Int32) (mn : Int32) (mpt : Int32) (mbg : Int32) (mwr : Int32) (mwk : Int32) (mlf : Int32) (men : Int32) (f : Nat → Int32) (G : Nat → Int32) (su : Nat → Int64) (p1 : Int32) (sz : Nat) (hT : ty_V ct S ph ws) (hph : ty_C ph xx) (hy1 : ty_y1 xx) (hy11 : ty_y0 xx 11) (hR : rf_R G (-1) f) (hc : 0 ≤ p1.toInt ∧ p1.toInt < (G 9).toInt) : Met l yX11_goes (ws_ yX11_goes cX11_goes 6 none) ({ frames := 6, cells := 0, slots := 0, locals := 140 } : Room) (va_Pc [.ref mo, .int p1] (cmP D ct sz ([(rf_MO mo mw ma mf m0 m1 mu mv u0 u1 iz th mb mn mpt mbg mwr mwk mlf men), (rf_RW ct 0 mw 958 f), (mu, .inl (ct 1, 42, .inr (.inl su)))] ++ ws))) (va_Qv (fun (u : va_W × Int32 × (Nat → Int32) × (Nat → Int64)) => match u with | (u9, men1, f1, su1) => ty_V ct S ph u9 ∧ (q_X11_goes men f G su p1 men1 f1 su1) ∧ rf_d (f 8) f f1 ∧ rf_R G (-1) f1) (cmB D ([(rf_MO mo mw ma mf m0 m1 mu mv u0 u1 iz th mb mn mpt mbg mwr mwk mlf men), (rf_RW ct 0 mw 958 f), (mu, .inl (ct 1, 42, .inr (.inl su)))] ++ ws) sz (fun (u : va_W × Int32 × (Nat → Int32) × (Nat → Int64)) => match u with | (u9, men1, f1, su1) => ([(rf_MO mo mw ma mf m0 m1 mu mv u0 u1 iz th mb mn mpt mbg mwr mwk mlf men1), (rf_RW ct 0 mw 958 f1), (mu, .inl (ct 1, 42, .inr (.inl su1)))] ++ u9))) (va_A ([(rf_MO mo mw ma mf m0 m1 mu mv u0 u1 iz th mb mn mpt mbg mwr mwk mlf men), (rf_RW ct 0 mw 958 f), (mu, .inl (ct 1, 42, .inr (.inl su)))] ++ ws) sz)) 0 0 (va_A ([(rf_MO mo mw ma mf m0 m1 mu mv u0 u1 iz th mb mn mpt mbg mwr mwk mlf men), (rf_RW ct 0 mw 958 f), (mu, .inl (ct 1, 42, .inr (.inl su)))] ++ ws) sz) := by
  refine Met.ofW (cc := cX11_goes) (maxL := 6) (ret := none) (by decide) rfl ?_
  intro p e s m args below meth c s₁ B hml hv
  obtain ⟨rfl, hsz, hP, hK, hD0, hX⟩ := hv
  have hx := B.exec
  have hb := B.bytes
  have hr := B.returns
  have hts := ws_all (atoms_spec (ws := ws_ yX11_goes cX11_goes 6 none) B.pre)
  have hown : s.vm.findClass RX11 = some m.cls := findClass_of_methodNamed B.named
  have hlocks := B.notSynchronized
  subst hsz
  have hD := hD0.self (sz := s.heap.size)
  generalize hAe : va_A ([(rf_MO mo mw ma mf m0 m1 mu mv u0 u1 iz th mb mn mpt mbg mwr mwk mlf men), (rf_RW ct 0 mw 958 f), (mu, .inl (ct 1, 42, .inr (.inl su)))] ++ ws) s.heap.size = A at hD hX ⊢
  have hA : ∀ q : Nat, s.heap.size ≤ q → A q := fun q h => by rw [← hAe]; exact Or.inr h
  have hS : va_S A s.heap s.heap [] := va_S.rf
  have hl := lv_entry ([.ref mo, .int p1]) (n := 6) (Nat.le_of_ble_eq_true rfl)
  rw [lg_entry_eq]
  generalize (lg_sl ([.ref mo, .int p1]) ++ List.replicate (6 - (lg_sl ([.ref mo, .int p1])).length) Slot.unset).toArray = ls at hl ⊢
  have hl : lv_has ls 6 [(0, .ref mo), (1, .int p1)] := hl
  refine lv_aload_n hx hb dX11_goes_0 rfl (lv_at hl 0 rfl) ?_
  refine lv_iload_n hx hb dX11_goes_1 rfl (lv_at hl 1 rfl) ?_
  refine lv_iconst (v := 5) hx hb dX11_goes_2 (by decide) ?_
  obtain ⟨hP, hD⟩ := ty_opPD (E1 := [(mu, .inl (ct 1, 42, .inr (.inl su)))]) (E2 := [(rf_MO mo mw ma mf m0 m1 mu mv u0 u1 iz th mb mn mpt mbg mwr mwk mlf men), (rf_RW ct 0 mw 958 f)]) (n := 3) [2, 0, 1] hP hD rfl rfl (by decide +kernel) ty_mva
  refine ty_Ki hP hD hS hA (va_runV (As := [.int p1, .int 5]) (rest := []) ⟨hx, hb, hml, hown, hts⟩ (m_of_5 l D ct S ws ph xx mo mw ma mf m0 m1 mu mv u0 u1 iz mb th mn mpt mbg mwr mwk mlf men f G (-1) p1 _ hT hph hy1 hR hc) (cm_V 2 hts kc_X11_of ki_RX11 kl_RX11_209 kv_X11_of kx_X11_of kd_X11_of ⟨Nat.le_of_ble_eq_true rfl, Nat.le_of_ble_eq_true rfl⟩) (ty_preE (ci := 11) (q0 := 1) hP hK hD hS hA hX rfl rfl) rfl rfl hl.1 rfl (lv_room (Nat.le_of_ble_eq_true rfl)) dX11_goes_3 ⟨Nat.le_of_ble_eq_true rfl, Nat.le_of_ble_eq_true rfl⟩) (fun r_1 u H locs hw_2 hP hD hS => ?_)
  obtain ⟨ws_3, rfl⟩ : ∃ z, z = u := ⟨_, rfl⟩
  obtain ⟨hT, rfl⟩ := hw_2
  obtain ⟨hP, hD⟩ := ty_shPD (w2 := ([(mu, .inl (ct 1, 42, .inr (.inl su))), (rf_MO mo mw ma mf m0 m1 mu mv u0 u1 iz th mb mn mpt mbg mwr mwk mlf men), (rf_RW ct 0 mw 958 f)] ++ ws_3)) hP hD rfl
  refine lv_istore_n (lv' := [(2, .int (rf_of f p1 5)), (0, .ref mo), (1, .int p1)]) hx hb dX11_goes_6 rfl hl (by decide) rfl (fun ls hl => ?_)
  refine lv_aload_n hx hb dX11_goes_7 rfl (lv_at hl 1 rfl) ?_
  refine lv_iload_n hx hb dX11_goes_8 rfl (lv_at hl 2 rfl) ?_
  refine lv_iconst (v := 4) hx hb dX11_goes_9 (by decide) ?_
  obtain ⟨hP, hD⟩ := ty_ipPD (E1 := [(mu, .inl (ct 1, 42, .inr (.inl su)))]) (E2 := [(rf_MO mo mw ma mf m0 m1 mu mv u0 u1 iz th mb mn mpt mbg mwr mwk mlf men), (rf_RW ct 0 mw 958 f)]) hP hD rfl ty_mva
  refine ty_Ki hP hD hS hA (va_runV (As := [.int p1, .int 4]) (rest := []) ⟨hx, hb, hml, hown, hts⟩ (m_of_4 l D ct S ws_3 ph xx mo mw ma mf m0 m1 mu mv u0 u1 iz mb th mn mpt mbg mwr mwk mlf men f G (-1) p1 _ hT hph hy1 hR hc) (cm_V 2 hts kc_X11_of ki_RX11 kl_RX11_209 kv_X11_of kx_X11_of kd_X11_of ⟨Nat.le_of_ble_eq_true rfl, Nat.le_of_ble_eq_true rfl⟩) (ty_preE (ci := 11) (q0 := 1) hP hK hD hS hA hX rfl rfl) rfl rfl hl.1 rfl (lv_room (Nat.le_of_ble_eq_true rfl)) dX11_goes_10 ⟨Nat.le_of_ble_eq_true rfl, Nat.le_of_ble_eq_true rfl⟩) (fun r_4 u H locs hw_5 hP hD hS => ?_)
  obtain ⟨ws_6, rfl⟩ : ∃ z, z = u := ⟨_, rfl⟩
  obtain ⟨hT, rfl⟩ := hw_5
  obtain ⟨hP, hD⟩ := ty_shPD (w2 := ([(mu, .inl (ct 1, 42, .inr (.inl su))), (rf_MO mo mw ma mf m0 m1 mu mv u0 u1 iz th mb mn mpt mbg mwr mwk mlf men), (rf_RW ct 0 mw 958 f)] ++ ws_6)) hP hD rfl
  refine lv_istore_n (lv' := [(3, .int (rf_of f p1 4)), (2, .int (rf_of f p1 5)), (0, .ref mo), (1, .int p1)]) hx hb dX11_goes_13 rfl hl (by decide) rfl (fun ls hl => ?_)
  refine lv_aload_n hx hb dX11_goes_14 rfl (lv_at hl 2 rfl) ?_
  refine lv_iload_n hx hb dX11_goes_15 rfl (lv_at hl 3 rfl) ?_
  refine lv_aload_n hx hb dX11_goes_16 rfl (lv_at hl 2 rfl) ?_
  refine lv_iload_n hx hb dX11_goes_17 rfl (lv_at hl 3 rfl) ?_
  obtain ⟨hP, hD⟩ := ty_ipPD (E1 := [(mu, .inl (ct 1, 42, .inr (.inl su)))]) (E2 := [(rf_MO mo mw ma mf m0 m1 mu mv u0 u1 iz th mb mn mpt mbg mwr mwk mlf men), (rf_RW ct 0 mw 958 f)]) hP hD rfl ty_mva
  refine ty_Ki hP hD hS hA (va_runV (As := [.int p1]) (rest := [.int p1, .ref mo]) ⟨hx, hb, hml, hown, hts⟩ (m_X11_currentOf l D ct S ws_6 ph xx mo mw ma mf m0 m1 mu mv u0 u1 iz mb th mn mpt mbg mwr mwk mlf men f G p1 _ hT hph hy1 hR hc) (cm_V 1 hts kc_X11_currentOf ki_RX11 kl_RX11_308 kv_X11_currentOf kx_X11_currentOf kd_X11_currentOf ⟨Nat.le_of_ble_eq_true rfl, Nat.le_of_ble_eq_true rfl⟩) (ty_preE (ci := 11) (q0 := 1) hP hK hD hS hA hX rfl rfl) rfl rfl hl.1 rfl (lv_room (Nat.le_of_ble_eq_true rfl)) dX11_goes_18 ⟨Nat.le_of_ble_eq_true rfl, Nat.le_of_ble_eq_true rfl⟩) (fun r_7 u H locs hw_8 hP hD hS => ?_)
  obtain ⟨ws_9, rfl⟩ : ∃ z, z = u := ⟨_, rfl⟩
  obtain ⟨hT, hp_10⟩ := hw_8
  have hp_10 : (q_X11_currentOf f p1 r_7) ∧ -((rf_of f p1 6).toInt) ≤ r_7.toInt ∧ r_7.toInt ≤ 5000 := hp_10
  obtain ⟨hq_11, hp_12⟩ := hp_10
  obtain ⟨hP, hD⟩ := ty_shPD (w2 := ([(mu, .inl (ct 1, 42, .inr (.inl su))), (rf_MO mo mw ma mf m0 m1 mu mv u0 u1 iz th mb mn mpt mbg mwr mwk mlf men), (rf_RW ct 0 mw 958 f)] ++ ws_9)) hP hD rfl
  obtain ⟨hP, hD⟩ := ty_opPD (E1 := []) (E2 := [(rf_MO mo mw ma mf m0 m1 mu mv u0 u1 iz th mb mn mpt mbg mwr mwk mlf men), (rf_RW ct 0 mw 958 f), (mu, .inl (ct 1, 42, .inr (.inl su)))]) (n := 3) [1, 2, 0] hP hD rfl rfl (by decide +kernel) ty_mva
  refine ty_Kv hP hD hS hA (va_runV (As := [.int p1, .int r_7]) (rest := []) ⟨hx, hb, hml, hown, hts⟩ (m_X11_flows l D ct S ws_9 ph xx mo mw ma mf m0 m1 mu mv u0 u1 iz mb th mn mpt mbg mwr mwk mlf men f G (-1) su p1 r_7 _ hT hph hy1 hy11 hR hc hp_12) (cm_V 2 hts kc_X11_flows ki_RX11 kl_RX11_311 kv_X11_flows kx_X11_flows kd_X11_flows ⟨Nat.le_of_ble_eq_true rfl, Nat.le_of_ble_eq_true rfl⟩) (ty_preE (ci := 11) (q0 := 0) hP hK hD hS hA hX rfl rfl) rfl rfl hl.1 rfl (lv_room (Nat.le_of_ble_eq_true rfl)) dX11_goes_21 ⟨Nat.le_of_ble_eq_true rfl, Nat.le_of_ble_eq_true rfl⟩) (fun u H locs hw_14 hP hD hS => ?_)
  obtain ⟨ws_15, f1_16, su1_17⟩ := u
  obtain ⟨hT, hp_18⟩ := hw_14
  have hp_18 : (q_X11_flows f su p1 r_7 f1_16 su1_17) ∧ rf_d (f 8) f f1_16 ∧ rf_R G (-1) f1_16 ∧ rf_sm f f1_16 := hp_18
  obtain ⟨hq_19, hp_20⟩ := hp_18
  obtain ⟨hd_21, hq_22⟩ := hp_20
  have hD_23 := rf_dt (rf_dr f) hd_21
  have hR_24 := hq_22.1
  have hM_25 := rf_smt (rf_smr f) hq_22.2
  obtain ⟨hP, hD⟩ := ty_shPD (w2 := ([(rf_MO mo mw ma mf m0 m1 mu mv u0 u1 iz th mb mn mpt mbg mwr mwk mlf men), (rf_RW ct 0 mw 958 f1_16), (mu, .inl (ct 1, 42, .inr (.inl su1_17)))] ++ ws_15)) hP hD rfl
  refine lv_bipush (v := 44) hx hb dX11_goes_24 (by decide) ?_
  refine lv_bipush (v := 9) hx hb dX11_goes_26 (by decide) ?_
  refine lv_aload_n hx hb dX11_goes_28 rfl (lv_at hl 2 rfl) ?_
  refine lv_iload_n hx hb dX11_goes_29 rfl (lv_at hl 3 rfl) ?_
  obtain ⟨hP, hD⟩ := ty_opPD (E1 := [(mu, .inl (ct 1, 42, .inr (.inl su1_17)))]) (E2 := [(rf_MO mo mw ma mf m0 m1 mu mv u0 u1 iz th mb mn mpt mbg mwr mwk mlf men), (rf_RW ct 0 mw 958 f1_16)]) (n := 3) [2, 0, 1] hP hD rfl rfl (by decide +kernel) ty_mva
  refine ty_Ki hP hD hS hA (va_runV (As := [.int p1]) (rest := [.int 9, .int 44]) ⟨hx, hb, hml, hown, hts⟩ (m_X11_filled l D ct S ws_15 ph xx mo mw ma mf m0 m1 mu mv u0 u1 iz mb th mn mpt mbg mwr mwk mlf men f1_16 G (-1) p1 _ hT hph hy1 hR_24 hc) (cm_V 1 hts kc_X11_filled ki_RX11 kl_RX11_314 kv_X11_filled kx_X11_filled kd_X11_filled ⟨Nat.le_of_ble_eq_true rfl, Nat.le_of_ble_eq_true rfl⟩) (ty_preE (ci := 11) (q0 := 1) hP hK hD hS hA hX rfl rfl) rfl rfl hl.1 rfl (lv_room (Nat.le_of_ble_eq_true rfl)) dX11_goes_30 ⟨Nat.le_of_ble_eq_true rfl, Nat.le_of_ble_eq_true rfl⟩) (fun r_26 u H locs hw_27 hP hD hS => ?_)
  obtain ⟨ws_28, rfl⟩ : ∃ z, z = u := ⟨_, rfl⟩
  obtain ⟨hT, hp_29⟩ := hw_27
  have hp_29 : (q_X11_filled f1_16 p1 r_26) ∧ 0 ≤ r_26.toInt := hp_29
  obtain ⟨hq_30, hp_31⟩ := hp_29
  obtain ⟨hP, hD⟩ := ty_shPD (w2 := ([(mu, .inl (ct 1, 42, .inr (.inl su1_17))), (rf_MO mo mw ma mf m0 m1 mu mv u0 u1 iz th mb mn mpt mbg mwr mwk mlf men), (rf_RW ct 0 mw 958 f1_16)] ++ ws_28)) hP hD rfl
  refine lv_bipush (v := 100) hx hb dX11_goes_33 (by decide) ?_
  refine lv_idiv hx hb dX11_goes_35 (by decide) ?_
  refine va_mmin hx hb (hml.trans hl.1.symm) hown (hts _ kl_RX11_184) (hts _ jm_min_s) (hts _ ki_RJ9) (hts _ jm_min_c) (Nat.le_of_ble_eq_true rfl) (Nat.le_of_ble_eq_true rfl) (Nat.le_of_ble_eq_true rfl) (Nat.le_of_ble_eq_true rfl) dX11_goes_36 ?_
  refine lv_iadd hx hb dX11_goes_39 ?_
  refine lv_istore (lv' := [(4, .int (44 + (if (r_26 / 100) < 9 then (r_26 / 100) else 9))), (3, .int (rf_of f p1 4)), (2, .int (rf_of f p1 5)), (0, .ref mo), (1, .int p1)]) hx hb dX11_goes_40 hl (by decide) rfl (fun ls hl => ?_)
  refine lv_aload_n hx hb dX11_goes_42 rfl (lv_at hl 3 rfl) ?_
  refine lv_iload_n hx hb dX11_goes_43 rfl (lv_at hl 4 rfl) ?_
  refine lv_iload hx hb dX11_goes_44 (lv_at hl 0 rfl) ?_
  refine lv_aload_n hx hb dX11_goes_46 rfl (lv_at hl 3 rfl) ?_
  refine lv_iload_n hx hb dX11_goes_47 rfl (lv_at hl 4 rfl) ?_
  refine lv_iload hx hb dX11_goes_48 (lv_at hl 0 rfl) ?_
  obtain ⟨hP, hD⟩ := ty_ipPD (E1 := [(mu, .inl (ct 1, 42, .inr (.inl su1_17)))]) (E2 := [(rf_MO mo mw ma mf m0 m1 mu mv u0 u1 iz th mb mn mpt mbg mwr mwk mlf men), (rf_RW ct 0 mw 958 f1_16)]) hP hD rfl ty_mva
  refine ty_Ki hP hD hS hA (va_runV (As := [.int p1, .int (44 + (if (r_26 / 100) < 9 then (r_26 / 100) else 9))]) (rest := [.int (44 + (if (r_26 / 100) < 9 then (r_26 / 100) else 9)), .int p1, .ref mo]) ⟨hx, hb, hml, hown, hts⟩ (m_of_v l D ct S ws_28 ph xx mo mw ma mf m0 m1 mu mv u0 u1 iz mb th mn mpt mbg mwr mwk mlf men f1_16 G (-1) p1 (44 + (if (r_26 / 100) < 9 then (r_26 / 100) else 9)) _ hT hph hy1 hR_24 hc (by have := rf_band hp_31; omega)) (cm_V 2 hts kc_X11_of ki_RX11 kl_RX11_209 kv_X11_of kx_X11_of kd_X11_of ⟨Nat.le_of_ble_eq_true rfl, Nat.le_of_ble_eq_true rfl⟩) (ty_preE (ci := 11) (q0 := 1) hP hK hD hS hA hX rfl rfl) rfl rfl hl.1 rfl (lv_room (Nat.le_of_ble_eq_true rfl)) dX11_goes_50 ⟨Nat.le_of_ble_eq_true rfl, Nat.le_of_ble_eq_true rfl⟩) (fun r_32 u H locs hw_33 hP hD hS => ?_)
  obtain ⟨ws_34, rfl⟩ : ∃ z, z = u := ⟨_, rfl⟩
  obtain ⟨hT, rfl⟩ := hw_33
  obtain ⟨hP, hD⟩ := ty_shPD (w2 := ([(mu, .inl (ct 1, 42, .inr (.inl su1_17))), (rf_MO mo mw ma mf m0 m1 mu mv u0 u1 iz th mb mn mpt mbg mwr mwk mlf men), (rf_RW ct 0 mw 958 f1_16)] ++ ws_34)) hP hD rfl
  refine lv_iconst (v := 1) hx hb dX11_goes_53 (by decide) ?_
  refine lv_iadd hx hb dX11_goes_54 ?_
  obtain ⟨hP, hD⟩ := ty_ipPD (E1 := [(mu, .inl (ct 1, 42, .inr (.inl su1_17)))]) (E2 := [(rf_MO mo mw ma mf m0 m1 mu mv u0 u1 iz th mb mn mpt mbg mwr mwk mlf men), (rf_RW ct 0 mw 958 f1_16)]) hP hD rfl ty_mva
  refine ty_Kv hP hD hS hA (va_runV (As := [.int p1, .int (44 + (if (r_26 / 100) < 9 then (r_26 / 100) else 9)), .int ((rf_of f1_16 p1 (44 + (if (r_26 / 100) < 9 then (r_26 / 100) else 9)).toInt.toNat) + 1)]) (rest := []) ⟨hx, hb, hml, hown, hts⟩ (m_put_v l D ct S ws_34 ph xx mo mw ma mf m0 m1 mu mv u0 u1 iz mb th mn mpt mbg mwr mwk mlf men f1_16 G (-1) p1 (44 + (if (r_26 / 100) < 9 then (r_26 / 100) else 9)) ((rf_of f1_16 p1 (44 + (if (r_26 / 100) < 9 then (r_26 / 100) else 9)).toInt.toNat) + 1) _ hT hph hy1 hR_24 hc (by have := rf_band hp_31; omega) (rf_kfree (by have := rf_band hp_31; omega))) (cm_V 3 hts kc_X11_put ki_RX11 kl_RX11_234 kv_X11_put kx_X11_put kd_X11_put ⟨Nat.le_of_ble_eq_true rfl, Nat.le_of_ble_eq_true rfl⟩) (ty_preE (ci := 11) (q0 := 1) hP hK hD hS hA hX rfl rfl) rfl rfl hl.1 rfl (lv_room (Nat.le_of_ble_eq_true rfl)) dX11_goes_55 ⟨Nat.le_of_ble_eq_true rfl, Nat.le_of_ble_eq_true rfl⟩) (fun u H locs hw_36 hP hD hS => ?_)
  obtain ⟨ws_37, f1_38⟩ := u
  obtain ⟨hT, hp_39⟩ := hw_36
  have hp_39 : rf_d (f1_16 8) f1_16 f1_38 ∧ rf_R G (-1) f1_38 ∧ rf_sm f1_16 f1_38 ∧ f1_38 = upd f1_16 (244 + 54 * p1.toInt.toNat + (44 + (if (r_26 / 100) < 9 then (r_26 / 100) else 9)).toInt.toNat) ((rf_of f1_16 p1 (44 + (if (r_26 / 100) < 9 then (r_26 / 100) else 9)).toInt.toNat) + 1) := hp_39
  obtain ⟨hd_40, hq_41⟩ := hp_39
  have hD_42 := rf_dt hD_23 hd_40
  have hR_43 := hq_41.1
  have hM_44 := rf_smt hM_25 hq_41.2.1
  obtain ⟨hP, hD⟩ := ty_shPD (w2 := ([(mu, .inl (ct 1, 42, .inr (.inl su1_17))), (rf_MO mo mw ma mf m0 m1 mu mv u0 u1 iz th mb mn mpt mbg mwr mwk mlf men), (rf_RW ct 0 mw 958 f1_38)] ++ ws_37)) hP hD rfl
  refine lv_aload_n hx hb dX11_goes_58 rfl (lv_at hl 3 rfl) ?_
  refine lv_iload_n hx hb dX11_goes_59 rfl (lv_at hl 4 rfl) ?_
  refine lv_iconst (v := 0) hx hb dX11_goes_60 (by decide) ?_
  obtain ⟨hP, hD⟩ := ty_ipPD (E1 := [(mu, .inl (ct 1, 42, .inr (.inl su1_17)))]) (E2 := [(rf_MO mo mw ma mf m0 m1 mu mv u0 u1 iz th mb mn mpt mbg mwr mwk mlf men), (rf_RW ct 0 mw 958 f1_38)]) hP hD rfl ty_mva
  refine ty_Ki hP hD hS hA (va_runV (As := [.int p1, .int 0]) (rest := []) ⟨hx, hb, hml, hown, hts⟩ (m_of_0 l D ct S ws_37 ph xx mo mw ma mf m0 m1 mu mv u0 u1 iz mb th mn mpt mbg mwr mwk mlf men f1_38 G (-1) p1 _ hT hph hy1 hR_43 hc) (cm_V 2 hts kc_X11_of ki_RX11 kl_RX11_209 kv_X11_of kx_X11_of kd_X11_of ⟨Nat.le_of_ble_eq_true rfl, Nat.le_of_ble_eq_true rfl⟩) (ty_preE (ci := 11) (q0 := 1) hP hK hD hS hA hX rfl rfl) rfl rfl hl.1 rfl (lv_room (Nat.le_of_ble_eq_true rfl)) dX11_goes_61 ⟨Nat.le_of_ble_eq_true rfl, Nat.le_of_ble_eq_true rfl⟩) (fun r_45 u H locs hw_46 hP hD hS => ?_)
  obtain ⟨ws_47, rfl⟩ : ∃ z, z = u := ⟨_, rfl⟩
  obtain ⟨hT, rfl⟩ := hw_46
  obtain ⟨hP, hD⟩ := ty_shPD (w2 := ([(mu, .inl (ct 1, 42, .inr (.inl su1_17))), (rf_MO mo mw ma mf m0 m1 mu mv u0 u1 iz th mb mn mpt mbg mwr mwk mlf men), (rf_RW ct 0 mw 958 f1_38)] ++ ws_47)) hP hD rfl
  refine lv_iconst (v := 1) hx hb dX11_goes_64 (by decide) ?_
  refine lv_icmp_eq (tgt := 77) hx hb dX11_goes_65 (by decide) (fun hc_48 => ?_) (fun hc_48 => ?_)
  · have ho_49 := (rf_onr hR_43 hc (Or.inl hc_48))
    refine lv_aload_n hx hb dX11_goes_77 rfl (lv_at hl 3 rfl) ?_
    refine lv_iload_n hx hb dX11_goes_78 rfl (lv_at hl 4 rfl) ?_
    refine lv_iconst (v := 4) hx hb dX11_goes_79 (by decide) ?_
    obtain ⟨hP, hD⟩ := ty_ipPD (E1 := [(mu, .inl (ct 1, 42, .inr (.inl su1_17)))]) (E2 := [(rf_MO mo mw ma mf m0 m1 mu mv u0 u1 iz th mb mn mpt mbg mwr mwk mlf men), (rf_RW ct 0 mw 958 f1_38)]) hP hD rfl ty_mva
    refine ty_Ki hP hD hS hA (va_runV (As := [.int p1, .int 4]) (rest := []) ⟨hx, hb, hml, hown, hts⟩ (m_of_4 l D ct S ws_47 ph xx mo mw ma mf m0 m1 mu mv u0 u1 iz mb th mn mpt mbg mwr mwk mlf men f1_38 G (-1) p1 _ hT hph hy1 hR_43 hc) (cm_V 2 hts kc_X11_of ki_RX11 kl_RX11_209 kv_X11_of kx_X11_of kd_X11_of ⟨Nat.le_of_ble_eq_true rfl, Nat.le_of_ble_eq_true rfl⟩) (ty_preE (ci := 11) (q0 := 1) hP hK hD hS hA hX rfl rfl) rfl rfl hl.1 rfl (lv_room (Nat.le_of_ble_eq_true rfl)) dX11_goes_80 ⟨Nat.le_of_ble_eq_true rfl, Nat.le_of_ble_eq_true rfl⟩) (fun r_50 u H locs hw_51 hP hD hS => ?_)
    obtain ⟨ws_52, rfl⟩ : ∃ z, z = u := ⟨_, rfl⟩
    obtain ⟨hT, rfl⟩ := hw_51
    obtain ⟨hP, hD⟩ := ty_shPD (w2 := ([(mu, .inl (ct 1, 42, .inr (.inl su1_17))), (rf_MO mo mw ma mf m0 m1 mu mv u0 u1 iz th mb mn mpt mbg mwr mwk mlf men), (rf_RW ct 0 mw 958 f1_38)] ++ ws_52)) hP hD rfl
    refine lv_iload_n hx hb dX11_goes_83 rfl (lv_at hl 1 rfl) ?_
    refine lv_isub hx hb dX11_goes_84 ?_
    refine lv_istore (lv' := [(5, .int ((rf_of f1_38 p1 4) - (rf_of f p1 4))), (4, .int (44 + (if (r_26 / 100) < 9 then (r_26 / 100) else 9))), (3, .int (rf_of f p1 4)), (2, .int (rf_of f p1 5)), (0, .ref mo), (1, .int p1)]) hx hb dX11_goes_85 hl (by decide) rfl (fun ls hl => ?_)
    refine lv_aload_n hx hb dX11_goes_87 rfl (lv_at hl 4 rfl) ?_
    refine lv_iload_n hx hb dX11_goes_88 rfl (lv_at hl 5 rfl) ?_
    refine lv_iconst (v := 3) hx hb dX11_goes_89 (by decide) ?_
    obtain ⟨hP, hD⟩ := ty_ipPD (E1 := [(mu, .inl (ct 1, 42, .inr (.inl su1_17)))]) (E2 := [(rf_MO mo mw ma mf m0 m1 mu mv u0 u1 iz th mb mn mpt mbg mwr mwk mlf men), (rf_RW ct 0 mw 958 f1_38)]) hP hD rfl ty_mva
    refine ty_Ki hP hD hS hA (va_runV (As := [.int p1, .int 3]) (rest := []) ⟨hx, hb, hml, hown, hts⟩ (m_of_3 l D ct S ws_52 ph xx mo mw ma mf m0 m1 mu mv u0 u1 iz mb th mn mpt mbg mwr mwk mlf men f1_38 G (-1) p1 _ hT hph hy1 hR_43 hc) (cm_V 2 hts kc_X11_of ki_RX11 kl_RX11_209 kv_X11_of kx_X11_of kd_X11_of ⟨Nat.le_of_ble_eq_true rfl, Nat.le_of_ble_eq_true rfl⟩) (ty_preE (ci := 11) (q0 := 1) hP hK hD hS hA hX rfl rfl) rfl rfl hl.1 rfl (lv_room (Nat.le_of_ble_eq_true rfl)) dX11_goes_90 ⟨Nat.le_of_ble_eq_true rfl, Nat.le_of_ble_eq_true rfl⟩) (fun r_53 u H locs hw_54 hP hD hS => ?_)
    obtain ⟨ws_55, rfl⟩ : ∃ z, z = u := ⟨_, rfl⟩
    obtain ⟨hT, rfl⟩ := hw_54
    obtain ⟨hP, hD⟩ := ty_shPD (w2 := ([(mu, .inl (ct 1, 42, .inr (.inl su1_17))), (rf_MO mo mw ma mf m0 m1 mu mv u0 u1 iz th mb mn mpt mbg mwr mwk mlf men), (rf_RW ct 0 mw 958 f1_38)] ++ ws_55)) hP hD rfl
    refine lv_if_ne (tgt := 123) hx hb dX11_goes_93 (by decide) (fun hc_56 => ?_) (fun hc_56 => ?_)
    · refine lv_aload_n hx hb dX11_goes_123 rfl (lv_at hl 4 rfl) ?_
      refine lv_iload_n hx hb dX11_goes_124 rfl (lv_at hl 5 rfl) ?_
      obtain ⟨hP, hD⟩ := ty_ipPD (E1 := [(mu, .inl (ct 1, 42, .inr (.inl su1_17)))]) (E2 := [(rf_MO mo mw ma mf m0 m1 mu mv u0 u1 iz th mb mn mpt mbg mwr mwk mlf men), (rf_RW ct 0 mw 958 f1_38)]) hP hD rfl ty_mva
      refine ty_Kv hP hD hS hA (va_runV (As := [.int p1]) (rest := []) ⟨hx, hb, hml, hown, hts⟩ (m_X11_warns l D ct S ws_55 ph xx mo mw ma mf m0 m1 mu mv u0 u1 iz mb th mn mpt mbg mwr mwk mlf men f1_38 G (-1) p1 _ hT hph hy1 hR_43 hc) (cm_V 1 hts kc_X11_warns ki_RX11 kl_RX11_317 kv_X11_warns kx_X11_warns kd_X11_warns ⟨Nat.le_of_ble_eq_true rfl, Nat.le_of_ble_eq_true rfl⟩) (ty_preE (ci := 11) (q0 := 1) hP hK hD hS hA hX rfl rfl) rfl rfl hl.1 rfl (lv_room (Nat.le_of_ble_eq_true rfl)) dX11_goes_125 ⟨Nat.le_of_ble_eq_true rfl, Nat.le_of_ble_eq_true rfl⟩) (fun u H locs hw_58 hP hD hS => ?_)
      obtain ⟨ws_59, f1_60⟩ := u
      obtain ⟨hT, hp_61⟩ := hw_58
      have hp_61 : (q_X11_warns f1_38 p1 f1_60) ∧ rf_d (f1_38 8) f1_38 f1_60 ∧ rf_R G (-1) f1_60 ∧ rf_sm f1_38 f1_60 := hp_61
      obtain ⟨hq_62, hp_63⟩ := hp_61
      obtain ⟨hd_64, hq_65⟩ := hp_63
      have hD_66 := rf_dt hD_42 hd_64
      have hR_67 := hq_65.1
      have hM_68 := rf_smt hM_44 hq_65.2
      have ho_69 := rf_ons hR_43 hc hq_65.2 ho_49
      obtain ⟨hP, hD⟩ := ty_shPD (w2 := ([(mu, .inl (ct 1, 42, .inr (.inl su1_17))), (rf_MO mo mw ma mf m0 m1 mu mv u0 u1 iz th mb mn mpt mbg mwr mwk mlf men), (rf_RW ct 0 mw 958 f1_60)] ++ ws_59)) hP hD rfl
      refine lv_aload_n hx hb dX11_goes_128 rfl (lv_at hl 4 rfl) ?_
      refine lv_iload_n hx hb dX11_goes_129 rfl (lv_at hl 5 rfl) ?_
      obtain ⟨hP, hD⟩ := ty_opPD (E1 := []) (E2 := [(rf_MO mo mw ma mf m0 m1 mu mv u0 u1 iz th mb mn mpt mbg mwr mwk mlf men), (rf_RW ct 0 mw 958 f1_60), (mu, .inl (ct 1, 42, .inr (.inl su1_17)))]) (n := 3) [1, 2, 0] hP hD rfl rfl (by decide +kernel) ty_mva
      refine ty_Kv hP hD hS hA (va_runV (As := [.int p1]) (rest := []) ⟨hx, hb, hml, hown, hts⟩ (m_X11_watches l D ct S ws_59 ph xx mo mw ma mf m0 m1 mu mv u0 u1 iz mb th mn mpt mbg mwr mwk mlf men f1_60 G su1_17 p1 _ hT hph hy1 hy11 hR_67 hc ho_69) (cm_V 1 hts kc_X11_watches ki_RX11 kl_RX11_320 kv_X11_watches kx_X11_watches kd_X11_watches ⟨Nat.le_of_ble_eq_true rfl, Nat.le_of_ble_eq_true rfl⟩) (ty_preE (ci := 11) (q0 := 0) hP hK hD hS hA hX rfl rfl) rfl rfl hl.1 rfl (lv_room (Nat.le_of_ble_eq_true rfl)) dX11_goes_130 ⟨Nat.le_of_ble_eq_true rfl, Nat.le_of_ble_eq_true rfl⟩) (fun u H locs hw_71 hP hD hS => ?_)
      obtain ⟨ws_72, men1_73, f1_74, su1_75⟩ := u
      obtain ⟨hT, hp_76⟩ := hw_71
      have hp_76 : (q_X11_watches men f1_60 G su1_17 p1 men1_73 f1_74 su1_75) ∧ rf_d (f1_60 8) f1_60 f1_74 ∧ rf_R G (-1) f1_74 := hp_76
      obtain ⟨hq_77, hp_78⟩ := hp_76
      obtain ⟨hd_79, hq_80⟩ := hp_78
      have hD_81 := rf_dt hD_66 hd_79
      have hR_82 := hq_80
      obtain ⟨hP, hD⟩ := ty_shPD (w2 := ([(rf_MO mo mw ma mf m0 m1 mu mv u0 u1 iz th mb mn mpt mbg mwr mwk mlf men1_73), (rf_RW ct 0 mw 958 f1_74), (mu, .inl (ct 1, 42, .inr (.inl su1_75)))] ++ ws_72)) hP hD rfl
      exact W.vret hx hb hr (fun t ht hW => ⟨⟨(ws_72, men1_73, f1_74, su1_75), rfl, ⟨hT, ⟨⟨r_7, hq_11, ⟨f1_16, su1_17, hq_19, ⟨r_26, hq_30, ⟨f1_38, hq_41.2.2, (Or.inl ⟨hc_48, (Or.inl ⟨hc_56, ⟨f1_60, hq_62, ⟨men1_73, f1_74, su1_75, hq_77, ⟨rfl, rfl, rfl⟩⟩⟩⟩)⟩)⟩⟩⟩⟩, ⟨hD_81, hR_82⟩⟩⟩, by rw [ht]; exact hP, by rw [hAe]; exact hD⟩, hS.F ht⟩) hS.2.2 dX11_goes_133
    · refine lv_iload hx hb dX11_goes_96 (lv_at hl 0 rfl) ?_
      refine lv_if_eq (tgt := 123) hx hb dX11_goes_98 (by decide) (fun hc_84 => ?_) (fun hc_84 => ?_)
      · refine lv_aload_n hx hb dX11_goes_123 rfl (lv_at hl 4 rfl) ?_
        refine lv_iload_n hx hb dX11_goes_124 rfl (lv_at hl 5 rfl) ?_
        obtain ⟨hP, hD⟩ := ty_ipPD (E1 := [(mu, .inl (ct 1, 42, .inr (.inl su1_17)))]) (E2 := [(rf_MO mo mw ma mf m0 m1 mu mv u0 u1 iz th mb mn mpt mbg mwr mwk mlf men), (rf_RW ct 0 mw 958 f1_38)]) hP hD rfl ty_mva
        refine ty_Kv hP hD hS hA (va_runV (As := [.int p1]) (rest := []) ⟨hx, hb, hml, hown, hts⟩ (m_X11_warns l D ct S ws_55 ph xx mo mw ma mf m0 m1 mu mv u0 u1 iz mb th mn mpt mbg mwr mwk mlf men f1_38 G (-1) p1 _ hT hph hy1 hR_43 hc) (cm_V 1 hts kc_X11_warns ki_RX11 kl_RX11_317 kv_X11_warns kx_X11_warns kd_X11_warns ⟨Nat.le_of_ble_eq_true rfl, Nat.le_of_ble_eq_true rfl⟩) (ty_preE (ci := 11) (q0 := 1) hP hK hD hS hA hX rfl rfl) rfl rfl hl.1 rfl (lv_room (Nat.le_of_ble_eq_true rfl)) dX11_goes_125 ⟨Nat.le_of_ble_eq_true rfl, Nat.le_of_ble_eq_true rfl⟩) (fun u H locs hw_86 hP hD hS => ?_)
        obtain ⟨ws_87, f1_88⟩ := u
        obtain ⟨hT, hp_89⟩ := hw_86
        have hp_89 : (q_X11_warns f1_38 p1 f1_88) ∧ rf_d (f1_38 8) f1_38 f1_88 ∧ rf_R G (-1) f1_88 ∧ rf_sm f1_38 f1_88 := hp_89
        obtain ⟨hq_90, hp_91⟩ := hp_89
        obtain ⟨hd_92, hq_93⟩ := hp_91
        have hD_94 := rf_dt hD_42 hd_92
        have hR_95 := hq_93.1
        have hM_96 := rf_smt hM_44 hq_93.2
        have ho_97 := rf_ons hR_43 hc hq_93.2 ho_49
        obtain ⟨hP, hD⟩ := ty_shPD (w2 := ([(mu, .inl (ct 1, 42, .inr (.inl su1_17))), (rf_MO mo mw ma mf m0 m1 mu mv u0 u1 iz th mb mn mpt mbg mwr mwk mlf men), (rf_RW ct 0 mw 958 f1_88)] ++ ws_87)) hP hD rfl
        refine lv_aload_n hx hb dX11_goes_128 rfl (lv_at hl 4 rfl) ?_
        refine lv_iload_n hx hb dX11_goes_129 rfl (lv_at hl 5 rfl) ?_
        obtain ⟨hP, hD⟩ := ty_opPD (E1 := []) (E2 := [(rf_MO mo mw ma mf m0 m1 mu mv u0 u1 iz th mb mn mpt mbg mwr mwk mlf men), (rf_RW ct 0 mw 958 f1_88), (mu, .inl (ct 1, 42, .inr (.inl su1_17)))]) (n := 3) [1, 2, 0] hP hD rfl rfl (by decide +kernel) ty_mva
        refine ty_Kv hP hD hS hA (va_runV (As := [.int p1]) (rest := []) ⟨hx, hb, hml, hown, hts⟩ (m_X11_watches l D ct S ws_87 ph xx mo mw ma mf m0 m1 mu mv u0 u1 iz mb th mn mpt mbg mwr mwk mlf men f1_88 G su1_17 p1 _ hT hph hy1 hy11 hR_95 hc ho_97) (cm_V 1 hts kc_X11_watches ki_RX11 kl_RX11_320 kv_X11_watches kx_X11_watches kd_X11_watches ⟨Nat.le_of_ble_eq_true rfl, Nat.le_of_ble_eq_true rfl⟩) (ty_preE (ci := 11) (q0 := 0) hP hK hD hS hA hX rfl rfl) rfl rfl hl.1 rfl (lv_room (Nat.le_of_ble_eq_true rfl)) dX11_goes_130 ⟨Nat.le_of_ble_eq_true rfl, Nat.le_of_ble_eq_true rfl⟩) (fun u H locs hw_99 hP hD hS => ?_)
        obtain ⟨ws_100, men1_101, f1_102, su1_103⟩ := u
        obtain ⟨hT, hp_104⟩ := hw_99
        have hp_104 : (q_X11_watches men f1_88 G su1_17 p1 men1_101 f1_102 su1_103) ∧ rf_d (f1_88 8) f1_88 f1_102 ∧ rf_R G (-1) f1_102 := hp_104
        obtain ⟨hq_105, hp_106⟩ := hp_104
        obtain ⟨hd_107, hq_108⟩ := hp_106
        have hD_109 := rf_dt hD_94 hd_107
        have hR_110 := hq_108
        obtain ⟨hP, hD⟩ := ty_shPD (w2 := ([(rf_MO mo mw ma mf m0 m1 mu mv u0 u1 iz th mb mn mpt mbg mwr mwk mlf men1_101), (rf_RW ct 0 mw 958 f1_102), (mu, .inl (ct 1, 42, .inr (.inl su1_103)))] ++ ws_100)) hP hD rfl
        exact W.vret hx hb hr (fun t ht hW => ⟨⟨(ws_100, men1_101, f1_102, su1_103), rfl, ⟨hT, ⟨⟨r_7, hq_11, ⟨f1_16, su1_17, hq_19, ⟨r_26, hq_30, ⟨f1_38, hq_41.2.2, (Or.inl ⟨hc_48, (Or.inr ⟨hc_56, (Or.inl ⟨hc_84, ⟨f1_88, hq_90, ⟨men1_101, f1_102, su1_103, hq_105, ⟨rfl, rfl, rfl⟩⟩⟩⟩)⟩)⟩)⟩⟩⟩⟩, ⟨hD_109, hR_110⟩⟩⟩, by rw [ht]; exact hP, by rw [hAe]; exact hD⟩, hS.F ht⟩) hS.2.2 dX11_goes_133
      · refine lv_aload_n hx hb dX11_goes_101 rfl (lv_at hl 4 rfl) ?_
        refine lv_iload_n hx hb dX11_goes_102 rfl (lv_at hl 5 rfl) ?_
        refine lv_bipush (v := 38) hx hb dX11_goes_103 (by decide) ?_
        refine lv_aload_n hx hb dX11_goes_105 rfl (lv_at hl 4 rfl) ?_
        refine lv_iload_n hx hb dX11_goes_106 rfl (lv_at hl 5 rfl) ?_
        refine lv_iconst (v := 5) hx hb dX11_goes_107 (by decide) ?_
        obtain ⟨hP, hD⟩ := ty_ipPD (E1 := [(mu, .inl (ct 1, 42, .inr (.inl su1_17)))]) (E2 := [(rf_MO mo mw ma mf m0 m1 mu mv u0 u1 iz th mb mn mpt mbg mwr mwk mlf men), (rf_RW ct 0 mw 958 f1_38)]) hP hD rfl ty_mva
        refine ty_Ki hP hD hS hA (va_runV (As := [.int p1, .int 5]) (rest := [.int 38, .int p1, .ref mo]) ⟨hx, hb, hml, hown, hts⟩ (m_of_5 l D ct S ws_55 ph xx mo mw ma mf m0 m1 mu mv u0 u1 iz mb th mn mpt mbg mwr mwk mlf men f1_38 G (-1) p1 _ hT hph hy1 hR_43 hc) (cm_V 2 hts kc_X11_of ki_RX11 kl_RX11_209 kv_X11_of kx_X11_of kd_X11_of ⟨Nat.le_of_ble_eq_true rfl, Nat.le_of_ble_eq_true rfl⟩) (ty_preE (ci := 11) (q0 := 1) hP hK hD hS hA hX rfl rfl) rfl rfl hl.1 rfl (lv_room (Nat.le_of_ble_eq_true rfl)) dX11_goes_108 ⟨Nat.le_of_ble_eq_true rfl, Nat.le_of_ble_eq_true rfl⟩) (fun r_112 u H locs hw_113 hP hD hS => ?_)
        obtain ⟨ws_114, rfl⟩ : ∃ z, z = u := ⟨_, rfl⟩
        obtain ⟨hT, rfl⟩ := hw_113
        obtain ⟨hP, hD⟩ := ty_shPD (w2 := ([(mu, .inl (ct 1, 42, .inr (.inl su1_17))), (rf_MO mo mw ma mf m0 m1 mu mv u0 u1 iz th mb mn mpt mbg mwr mwk mlf men), (rf_RW ct 0 mw 958 f1_38)] ++ ws_114)) hP hD rfl
        refine lv_iload_n hx hb dX11_goes_111 rfl (lv_at hl 3 rfl) ?_
        refine lv_isub hx hb dX11_goes_112 ?_
        refine lv_sipush (v := 1000) hx hb dX11_goes_113 (by decide) ?_
        refine lv_imul hx hb dX11_goes_116 ?_
        refine lv_iload hx hb dX11_goes_117 (lv_at hl 0 rfl) ?_
        refine lv_idiv hx hb dX11_goes_119 hc_84 ?_
        obtain ⟨hP, hD⟩ := ty_ipPD (E1 := [(mu, .inl (ct 1, 42, .inr (.inl su1_17)))]) (E2 := [(rf_MO mo mw ma mf m0 m1 mu mv u0 u1 iz th mb mn mpt mbg mwr mwk mlf men), (rf_RW ct 0 mw 958 f1_38)]) hP hD rfl ty_mva
        refine ty_Kv hP hD hS hA (va_runV (As := [.int p1, .int 38, .int ((((rf_of f1_38 p1 5) - (rf_of f p1 5)) * 1000) / ((rf_of f1_38 p1 4) - (rf_of f p1 4)))]) (rest := []) ⟨hx, hb, hml, hown, hts⟩ (m_put_38 l D ct S ws_114 ph xx mo mw ma mf m0 m1 mu mv u0 u1 iz mb th mn mpt mbg mwr mwk mlf men f1_38 G (-1) p1 ((((rf_of f1_38 p1 5) - (rf_of f p1 5)) * 1000) / ((rf_of f1_38 p1 4) - (rf_of f p1 4))) _ hT hph hy1 hR_43 hc) (cm_V 3 hts kc_X11_put ki_RX11 kl_RX11_234 kv_X11_put kx_X11_put kd_X11_put ⟨Nat.le_of_ble_eq_true rfl, Nat.le_of_ble_eq_true rfl⟩) (ty_preE (ci := 11) (q0 := 1) hP hK hD hS hA hX rfl rfl) rfl rfl hl.1 rfl (lv_room (Nat.le_of_ble_eq_true rfl)) dX11_goes_120 ⟨Nat.le_of_ble_eq_true rfl, Nat.le_of_ble_eq_true rfl⟩) (fun u H locs hw_116 hP hD hS => ?_)
        obtain ⟨ws_117, f1_118⟩ := u
        obtain ⟨hT, hp_119⟩ := hw_116
        have hp_119 : rf_d (f1_38 8) f1_38 f1_118 ∧ rf_R G (-1) f1_118 ∧ rf_sm f1_38 f1_118 ∧ f1_118 = upd f1_38 (244 + 54 * p1.toInt.toNat + 38) ((((rf_of f1_38 p1 5) - (rf_of f p1 5)) * 1000) / ((rf_of f1_38 p1 4) - (rf_of f p1 4))) := hp_119
        obtain ⟨hd_120, hq_121⟩ := hp_119
        have hD_122 := rf_dt hD_42 hd_120
        have hR_123 := hq_121.1
        have hM_124 := rf_smt hM_44 hq_121.2.1
        have ho_125 := rf_ons hR_43 hc hq_121.2.1 ho_49
        obtain ⟨hP, hD⟩ := ty_shPD (w2 := ([(mu, .inl (ct 1, 42, .inr (.inl su1_17))), (rf_MO mo mw ma mf m0 m1 mu mv u0 u1 iz th mb mn mpt mbg mwr mwk mlf men), (rf_RW ct 0 mw 958 f1_118)] ++ ws_117)) hP hD rfl
        refine lv_aload_n hx hb dX11_goes_123 rfl (lv_at hl 4 rfl) ?_
        refine lv_iload_n hx hb dX11_goes_124 rfl (lv_at hl 5 rfl) ?_
        obtain ⟨hP, hD⟩ := ty_ipPD (E1 := [(mu, .inl (ct 1, 42, .inr (.inl su1_17)))]) (E2 := [(rf_MO mo mw ma mf m0 m1 mu mv u0 u1 iz th mb mn mpt mbg mwr mwk mlf men), (rf_RW ct 0 mw 958 f1_118)]) hP hD rfl ty_mva
        refine ty_Kv hP hD hS hA (va_runV (As := [.int p1]) (rest := []) ⟨hx, hb, hml, hown, hts⟩ (m_X11_warns l D ct S ws_117 ph xx mo mw ma mf m0 m1 mu mv u0 u1 iz mb th mn mpt mbg mwr mwk mlf men f1_118 G (-1) p1 _ hT hph hy1 hR_123 hc) (cm_V 1 hts kc_X11_warns ki_RX11 kl_RX11_317 kv_X11_warns kx_X11_warns kd_X11_warns ⟨Nat.le_of_ble_eq_true rfl, Nat.le_of_ble_eq_true rfl⟩) (ty_preE (ci := 11) (q0 := 1) hP hK hD hS hA hX rfl rfl) rfl rfl hl.1 rfl (lv_room (Nat.le_of_ble_eq_true rfl)) dX11_goes_125 ⟨Nat.le_of_ble_eq_true rfl, Nat.le_of_ble_eq_true rfl⟩) (fun u H locs hw_127 hP hD hS => ?_)
        obtain ⟨ws_128, f1_129⟩ := u
        obtain ⟨hT, hp_130⟩ := hw_127
        have hp_130 : (q_X11_warns f1_118 p1 f1_129) ∧ rf_d (f1_118 8) f1_118 f1_129 ∧ rf_R G (-1) f1_129 ∧ rf_sm f1_118 f1_129 := hp_130
        obtain ⟨hq_131, hp_132⟩ := hp_130
        obtain ⟨hd_133, hq_134⟩ := hp_132
        have hD_135 := rf_dt hD_122 hd_133
        have hR_136 := hq_134.1
        have hM_137 := rf_smt hM_124 hq_134.2
        have ho_138 := rf_ons hR_123 hc hq_134.2 ho_125
        obtain ⟨hP, hD⟩ := ty_shPD (w2 := ([(mu, .inl (ct 1, 42, .inr (.inl su1_17))), (rf_MO mo mw ma mf m0 m1 mu mv u0 u1 iz th mb mn mpt mbg mwr mwk mlf men), (rf_RW ct 0 mw 958 f1_129)] ++ ws_128)) hP hD rfl
        refine lv_aload_n hx hb dX11_goes_128 rfl (lv_at hl 4 rfl) ?_
        refine lv_iload_n hx hb dX11_goes_129 rfl (lv_at hl 5 rfl) ?_
        obtain ⟨hP, hD⟩ := ty_opPD (E1 := []) (E2 := [(rf_MO mo mw ma mf m0 m1 mu mv u0 u1 iz th mb mn mpt mbg mwr mwk mlf men), (rf_RW ct 0 mw 958 f1_129), (mu, .inl (ct 1, 42, .inr (.inl su1_17)))]) (n := 3) [1, 2, 0] hP hD rfl rfl (by decide +kernel) ty_mva
        refine ty_Kv hP hD hS hA (va_runV (As := [.int p1]) (rest := []) ⟨hx, hb, hml, hown, hts⟩ (m_X11_watches l D ct S ws_128 ph xx mo mw ma mf m0 m1 mu mv u0 u1 iz mb th mn mpt mbg mwr mwk mlf men f1_129 G su1_17 p1 _ hT hph hy1 hy11 hR_136 hc ho_138) (cm_V 1 hts kc_X11_watches ki_RX11 kl_RX11_320 kv_X11_watches kx_X11_watches kd_X11_watches ⟨Nat.le_of_ble_eq_true rfl, Nat.le_of_ble_eq_true rfl⟩) (ty_preE (ci := 11) (q0 := 0) hP hK hD hS hA hX rfl rfl) rfl rfl hl.1 rfl (lv_room (Nat.le_of_ble_eq_true rfl)) dX11_goes_130 ⟨Nat.le_of_ble_eq_true rfl, Nat.le_of_ble_eq_true rfl⟩) (fun u H locs hw_140 hP hD hS => ?_)
        obtain ⟨ws_141, men1_142, f1_143, su1_144⟩ := u
        obtain ⟨hT, hp_145⟩ := hw_140
        have hp_145 : (q_X11_watches men f1_129 G su1_17 p1 men1_142 f1_143 su1_144) ∧ rf_d (f1_129 8) f1_129 f1_143 ∧ rf_R G (-1) f1_143 := hp_145
        obtain ⟨hq_146, hp_147⟩ := hp_145
        obtain ⟨hd_148, hq_149⟩ := hp_147
        have hD_150 := rf_dt hD_135 hd_148
        have hR_151 := hq_149
        obtain ⟨hP, hD⟩ := ty_shPD (w2 := ([(rf_MO mo mw ma mf m0 m1 mu mv u0 u1 iz th mb mn mpt mbg mwr mwk mlf men1_142), (rf_RW ct 0 mw 958 f1_143), (mu, .inl (ct 1, 42, .inr (.inl su1_144)))] ++ ws_141)) hP hD rfl
        exact W.vret hx hb hr (fun t ht hW => ⟨⟨(ws_141, men1_142, f1_143, su1_144), rfl, ⟨hT, ⟨⟨r_7, hq_11, ⟨f1_16, su1_17, hq_19, ⟨r_26, hq_30, ⟨f1_38, hq_41.2.2, (Or.inl ⟨hc_48, (Or.inr ⟨hc_56, (Or.inr ⟨hc_84, ⟨f1_118, hq_121.2.2, ⟨f1_129, hq_131, ⟨men1_142, f1_143, su1_144, hq_146, ⟨rfl, rfl, rfl⟩⟩⟩⟩⟩)⟩)⟩)⟩⟩⟩⟩, ⟨hD_150, hR_151⟩⟩⟩, by rw [ht]; exact hP, by rw [hAe]; exact hD⟩, hS.F ht⟩) hS.2.2 dX11_goes_133
  · refine lv_aload_n hx hb dX11_goes_68 rfl (lv_at hl 3 rfl) ?_
    refine lv_iload_n hx hb dX11_goes_69 rfl (lv_at hl 4 rfl) ?_
    refine lv_bipush (v := 37) hx hb dX11_goes_70 (by decide) ?_
    refine lv_iconst (v := 0) hx hb dX11_goes_72 (by decide) ?_
    obtain ⟨hP, hD⟩ := ty_ipPD (E1 := [(mu, .inl (ct 1, 42, .inr (.inl su1_17)))]) (E2 := [(rf_MO mo mw ma mf m0 m1 mu mv u0 u1 iz th mb mn mpt mbg mwr mwk mlf men), (rf_RW ct 0 mw 958 f1_38)]) hP hD rfl ty_mva
    refine ty_Kv hP hD hS hA (va_runV (As := [.int p1, .int 37, .int 0]) (rest := []) ⟨hx, hb, hml, hown, hts⟩ (m_put_37 l D ct S ws_47 ph xx mo mw ma mf m0 m1 mu mv u0 u1 iz mb th mn mpt mbg mwr mwk mlf men f1_38 G (-1) p1 (0 : Int32) _ hT hph hy1 hR_43 hc) (cm_V 3 hts kc_X11_put ki_RX11 kl_RX11_234 kv_X11_put kx_X11_put kd_X11_put ⟨Nat.le_of_ble_eq_true rfl, Nat.le_of_ble_eq_true rfl⟩) (ty_preE (ci := 11) (q0 := 1) hP hK hD hS hA hX rfl rfl) rfl rfl hl.1 rfl (lv_room (Nat.le_of_ble_eq_true rfl)) dX11_goes_73 ⟨Nat.le_of_ble_eq_true rfl, Nat.le_of_ble_eq_true rfl⟩) (fun u H locs hw_154 hP hD hS => ?_)
    obtain ⟨ws_155, f1_156⟩ := u
    obtain ⟨hT, hp_157⟩ := hw_154
    have hp_157 : rf_d (f1_38 8) f1_38 f1_156 ∧ rf_R G (-1) f1_156 ∧ rf_sm f1_38 f1_156 ∧ f1_156 = upd f1_38 (244 + 54 * p1.toInt.toNat + 37) (0 : Int32) := hp_157
    obtain ⟨hd_158, hq_159⟩ := hp_157
    have hD_160 := rf_dt hD_42 hd_158
    have hR_161 := hq_159.1
    have hM_162 := rf_smt hM_44 hq_159.2.1
    obtain ⟨hP, hD⟩ := ty_shPD (w2 := ([(mu, .inl (ct 1, 42, .inr (.inl su1_17))), (rf_MO mo mw ma mf m0 m1 mu mv u0 u1 iz th mb mn mpt mbg mwr mwk mlf men), (rf_RW ct 0 mw 958 f1_156)] ++ ws_155)) hP hD rfl
    obtain ⟨hP, hD⟩ := ty_ordPD (E2 := [(rf_MO mo mw ma mf m0 m1 mu mv u0 u1 iz th mb mn mpt mbg mwr mwk mlf men), (rf_RW ct 0 mw 958 f1_156), (mu, .inl (ct 1, 42, .inr (.inl su1_17)))]) (n := 3) [1, 2, 0] hP hD rfl rfl (by decide +kernel)
    exact W.vret hx hb hr (fun t ht hW => ⟨⟨(ws_155, men, f1_156, su1_17), rfl, ⟨hT, ⟨⟨r_7, hq_11, ⟨f1_16, su1_17, hq_19, ⟨r_26, hq_30, ⟨f1_38, hq_41.2.2, (Or.inr ⟨hc_48, ⟨f1_156, hq_159.2.2, ⟨rfl, rfl, rfl⟩⟩⟩)⟩⟩⟩⟩, ⟨hD_160, hR_161⟩⟩⟩, by rw [ht]; exact hP, by rw [hAe]; exact hD⟩, hS.F ht⟩) hS.2.2 dX11_goes_76
theorem q_y1 {y p : Int32} (h0 : 0 ≤ y.toInt) (h : ¬ p ≤ y) : (y + Int32.ofInt 1).toInt.toNat = y.toInt.toNat + 1 := by
  rw [Int32.le_iff_toInt_le] at h
  have := p.toInt_lt
  have e : (y + 1).toInt = y.toInt + 1 := by
    rw [Jvm.Kit.i32_add (by have : (1 : Int32).toInt = 1 := (by decide); omega) (by have : (1 : Int32).toInt = 1 := (by decide); omega)]
    have : (1 : Int32).toInt = 1 := by decide
    omega
  show (y + 1).toInt.toNat = _
  omega
def q_gs (G : Nat → Int32) : Nat → Int32 → (Nat → Int32) → (Nat → Int64) → Int32 → (Nat → Int32) → (Nat → Int64) → Prop
  | 0, e, f, s, e1, f1, s1 => e1 = e ∧ f1 = f ∧ s1 = s
  | n + 1, e, f, s, e1, f1, s1 => ∃ (e2 : Int32) (f2 : Nat → Int32) (s2 : Nat → Int64), q_gs G n e f s e2 f2 s2 ∧ q_X11_goes e2 f2 G s2 (Int32.ofNat n) e1 f1 s1
theorem q_gs0 {G f f0 : Nat → Int32} {e : Int32} {s : Nat → Int64} (h : f0 = f) : q_gs G (0 : Int32).toInt.toNat e f0 s e f s := by
  rw [show (0 : Int32).toInt.toNat = 0 from by decide]
  exact ⟨rfl, h.symm, rfl⟩
theorem q_ofn {y : Int32} (h : 0 ≤ y.toInt) : Int32.ofNat y.toInt.toNat = y := by
  have e : (y.toInt.toNat : Int) = y.toInt := by omega
  have : Int32.ofNat y.toInt.toNat = Int32.ofInt (y.toInt.toNat : Int) := rfl
  rw [this, e, Int32.ofInt_toInt]
theorem q_gss {G f f2 f1 : Nat → Int32} {y e e2 e1 : Int32} {s s2 s1 : Nat → Int64} (h0 : 0 ≤ y.toInt) (h : y.toInt < 1000000) (a : q_gs G y.toInt.toNat e f s e2 f2 s2) (b : q_X11_goes e2 f2 G s2 y e1 f1 s1) : q_gs G (y + Int32.ofInt 1).toInt.toNat e f s e1 f1 s1 := by
  have k : (y + Int32.ofInt 1).toInt.toNat = y.toInt.toNat + 1 := by have := rf_p1 (x := y) (by omega); show (y + 1).toInt.toNat = _; omega
  rw [k]
  exact ⟨e2, f2, s2, a, by rw [q_ofn h0]; exact b⟩
def q_X11_ticks (men : Int32) (f : Nat → Int32) (G : Nat → Int32) (su : Nat → Int64) (men1 : Int32) (f1 : Nat → Int32) (su1 : Nat → Int64) : Prop := (∃ (f_1 : Nat → Int32), (upd f (8 : Int32).toNatClampNeg ((f 8) + 1)) = f_1 ∧ (∃ (y_7 : Int32) (y_8 : Int32) (f_9 : Nat → Int32) (g_10 : Nat → Int64), ((0 ≤ y_7.toInt ∧ y_7.toInt ≤ (G 9).toInt) ∧ q_gs G y_7.toInt.toNat men (upd f (8 : Int32).toNatClampNeg ((f 8) + 1)) su y_8 f_9 g_10) ∧ ((f_9 9) ≤ y_7 ∧ (men1 = y_8 ∧ f1 = f_9 ∧ su1 = g_10))))
set_option maxRecDepth 100000 in
set_option maxHeartbeats 4000000 in
theorem m_X11_ticks (l : Launch) (D : va_G) (ct : Nat → ClassId) (S : ty_S) (ws : va_W) (ph : va_W → Prop) (xx : Nat → Nat → Nat → Prop) (mo : Nat) (mw : Nat) (ma : Nat) (mf : Nat) (m0 : Nat) (m1 : Nat) (mu : Nat) (mv : Nat) (u0 : Nat) (u1 : Nat) (iz : Nat) (mb : Nat) (th : Int32) (mn : Int32) (mpt : Int32) (mbg : Int32) (mwr : Int32) (mwk : Int32) (mlf : Int32) (men : Int32) (f : Nat → Int32) (G : Nat → Int32) (su : Nat → Int64) (sz : Nat) (hT : ty_V ct S ph ws) (hph : ty_C ph xx) (hy1 : ty_y1 xx) (hy11 : ty_y0 xx 11) (hR : rf_R G (-1) f) : Met l yX11_ticks (ws_ yX11_ticks cX11_ticks 2 none) ({ frames := 7, cells := 0, slots := 0, locals := 165 } : Room) (va_Pc [.ref mo] (cmP D ct sz ([(rf_MO mo mw ma mf m0 m1 mu mv u0 u1 iz th mb mn mpt mbg mwr mwk mlf men), (rf_RW ct 0 mw 958 f), (mu, .inl (ct 1, 42, .inr (.inl su)))] ++ ws))) (va_Qv (fun (u : va_W × Int32 × (Nat → Int32) × (Nat → Int64)) => match u with | (u9, men1, f1, su1) => ty_V ct S ph u9 ∧ (q_X11_ticks men f G su men1 f1 su1) ∧ rf_d ((f 8) + 1) f f1 ∧ rf_R G (-1) f1) (cmB D ([(rf_MO mo mw ma mf m0 m1 mu mv u0 u1 iz th mb mn mpt mbg mwr mwk mlf men), (rf_RW ct 0 mw 958 f), (mu, .inl (ct 1, 42, .inr (.inl su)))] ++ ws) sz (fun (u : va_W × Int32 × (Nat → Int32) × (Nat → Int64)) => match u with | (u9, men1, f1, su1) => ([(rf_MO mo mw ma mf m0 m1 mu mv u0 u1 iz th mb mn mpt mbg mwr mwk mlf men1), (rf_RW ct 0 mw 958 f1), (mu, .inl (ct 1, 42, .inr (.inl su1)))] ++ u9))) (va_A ([(rf_MO mo mw ma mf m0 m1 mu mv u0 u1 iz th mb mn mpt mbg mwr mwk mlf men), (rf_RW ct 0 mw 958 f), (mu, .inl (ct 1, 42, .inr (.inl su)))] ++ ws) sz)) 0 0 (va_A ([(rf_MO mo mw ma mf m0 m1 mu mv u0 u1 iz th mb mn mpt mbg mwr mwk mlf men), (rf_RW ct 0 mw 958 f), (mu, .inl (ct 1, 42, .inr (.inl su)))] ++ ws) sz) := by
  refine Met.ofW (cc := cX11_ticks) (maxL := 2) (ret := none) (by decide) rfl ?_
  intro p e s m args below meth c s₁ B hml hv
  obtain ⟨rfl, hsz, hP, hK, hD0, hX⟩ := hv
  have hx := B.exec
  have hb := B.bytes
  have hr := B.returns
  have hts := ws_all (atoms_spec (ws := ws_ yX11_ticks cX11_ticks 2 none) B.pre)
  have hown : s.vm.findClass RX11 = some m.cls := findClass_of_methodNamed B.named
  have hlocks := B.notSynchronized
  subst hsz
  have hD := hD0.self (sz := s.heap.size)
  generalize hAe : va_A ([(rf_MO mo mw ma mf m0 m1 mu mv u0 u1 iz th mb mn mpt mbg mwr mwk mlf men), (rf_RW ct 0 mw 958 f), (mu, .inl (ct 1, 42, .inr (.inl su)))] ++ ws) s.heap.size = A at hD hX ⊢
  have hA : ∀ q : Nat, s.heap.size ≤ q → A q := fun q h => by rw [← hAe]; exact Or.inr h
  have hS : va_S A s.heap s.heap [] := va_S.rf
  have hl := lv_entry ([.ref mo]) (n := 2) (Nat.le_of_ble_eq_true rfl)
  rw [lg_entry_eq]
  generalize (lg_sl ([.ref mo]) ++ List.replicate (2 - (lg_sl ([.ref mo])).length) Slot.unset).toArray = ls at hl ⊢
  have hl : lv_has ls 2 [(0, .ref mo)] := hl
  refine lv_aload_n hx hb dX11_ticks_0 rfl (lv_at hl 0 rfl) ?_
  refine va_get (v := .ref mw) (D := D) (ci := 11) (C := RX11) (T := TX11) (N := 19) hx hb hts in_X11 hown hK hP 0 rfl rfl 0 (by decide) (hts _ kl_RX11_9) (fun _ h9 => h9) rfl dX11_ticks_1 ?_
  refine lv_bipush (v := 8) hx hb dX11_ticks_4 (by decide) ?_
  refine lv_dup2_11 hx hb dX11_ticks_6 rfl rfl ?_
  refine va_iald hx hb hK hP 1 0 rfl rfl (cm_vin (by decide)) dX11_ticks_7 ?_
  refine cm_cst (y := (f 8)) (by first | rfl | decide +kernel) ?_
  refine lv_iconst (v := 1) hx hb dX11_ticks_8 (by decide) ?_
  refine lv_iadd hx hb dX11_ticks_9 ?_
  refine va_iast hx hb hK hP hD hS 1 0 rfl rfl (cm_vin (by decide)) dX11_ticks_10 (fun H locs hP hD hS => ?_)
  have hP : va_P D vwCl ([(rf_MO mo mw ma mf m0 m1 mu mv u0 u1 iz th mb mn mpt mbg mwr mwk mlf men), (rf_RW ct 0 mw 958 (upd f (8 : Int32).toNatClampNeg ((f 8) + 1))), (mu, .inl (ct 1, 42, .inr (.inl su)))] ++ ws) H := hP
  have hD : va_D A ([(rf_MO mo mw ma mf m0 m1 mu mv u0 u1 iz th mb mn mpt mbg mwr mwk mlf men), (rf_RW ct 0 mw 958 (upd f (8 : Int32).toNatClampNeg ((f 8) + 1))), (mu, .inl (ct 1, 42, .inr (.inl su)))] ++ ws) := hD
  have hU_2 : rf_R G (-1) (upd f (8 : Int32).toNatClampNeg ((f 8) + 1)) ∧ rf_sm f (upd f (8 : Int32).toNatClampNeg ((f 8) + 1)) := (rf_free _ hR (Or.inl (by decide)))
  generalize hf_5 : (upd f (8 : Int32).toNatClampNeg ((f 8) + 1)) = f_1 at hP hD hU_2
  have hD_6 := rf_dk (rf_dr f) hf_5 (by decide) rfl
  have hR_3 := hU_2.1
  have hM_4 := rf_smt (rf_smr f) hU_2.2
  refine lv_iconst (v := 0) hx hb dX11_ticks_11 (by decide) ?_
  refine lv_istore_n (lv' := [(1, .int 0), (0, .ref mo)]) hx hb dX11_ticks_12 rfl hl (by decide) rfl (fun ls hl => ?_)
  refine ty_loop (I := fun μ H locs ls => ∃ (ws : va_W) (y_7 : Int32) (y_8 : Int32) (f_9 : Nat → Int32) (g_10 : Nat → Int64), μ = (2147483648 - y_7.toInt).toNat ∧ ty_V ct S ph ws ∧ va_P D vwCl ([(rf_MO mo mw ma mf m0 m1 mu mv u0 u1 iz th mb mn mpt mbg mwr mwk mlf y_8), (rf_RW ct 0 mw 958 f_9), (mu, .inl (ct 1, 42, .inr (.inl g_10)))] ++ ws) H ∧ va_D A ([(rf_MO mo mw ma mf m0 m1 mu mv u0 u1 iz th mb mn mpt mbg mwr mwk mlf y_8), (rf_RW ct 0 mw 958 f_9), (mu, .inl (ct 1, 42, .inr (.inl g_10)))] ++ ws) ∧ va_S A s.heap H locs ∧ lv_has ls 2 [(0, .ref mo), (1, .int y_7)] ∧ rf_R G (-1) f_9 ∧ rf_d ((f 8) + 1) f f_9 ∧ (0 ≤ y_7.toInt ∧ y_7.toInt ≤ (G 9).toInt) ∧ q_gs G y_7.toInt.toNat men (upd f (8 : Int32).toNatClampNeg ((f 8) + 1)) su y_8 f_9 g_10) ⟨_, ws, (0 : Int32), men, f_1, su, rfl, hT, hP, hD, hS, (lv_sub hl [1, 0] rfl), hR_3, hD_6, ⟨⟨by decide, (by have := hR.1.2.2.1.1; have z : (0 : Int32).toInt = 0 := (by decide); omega)⟩, q_gs0 hf_5⟩⟩ (fun μ H locs ls hI ih_13 => ?_)
  obtain ⟨ws, y_7, y_8, f_9, g_10, rfl, hT, hP, hD, hS, hl, hR_13, hD_13, hex_13⟩ := hI
  refine lv_iload_n hx hb dX11_ticks_13 rfl (lv_at hl 1 rfl) ?_
  refine lv_aload_n hx hb dX11_ticks_14 rfl (lv_at hl 0 rfl) ?_
  refine va_get (v := .ref mw) (D := D) (ci := 11) (C := RX11) (T := TX11) (N := 19) hx hb hts in_X11 hown hK hP 0 rfl rfl 0 (by decide) (hts _ kl_RX11_9) (fun _ h9 => h9) rfl dX11_ticks_15 ?_
  refine lv_bipush (v := 9) hx hb dX11_ticks_18 (by decide) ?_
  refine va_iald hx hb hK hP 1 0 rfl rfl (cm_vin (by decide)) dX11_ticks_20 ?_
  refine cm_cst (y := (f_9 9)) (by first | rfl | decide +kernel) ?_
  refine lv_icmp_ge (tgt := 35) hx hb dX11_ticks_21 (by decide) (fun hc_11 => ?_) (fun hc_11 => ?_)
  · exact W.vret hx hb hr (fun t ht hW => ⟨⟨(ws, y_8, f_9, g_10), rfl, ⟨hT, ⟨⟨f_1, hf_5, ⟨y_7, y_8, f_9, g_10, hex_13, ⟨hc_11, ⟨rfl, rfl, rfl⟩⟩⟩⟩, ⟨hD_13, hR_13⟩⟩⟩, by rw [ht]; exact hP, by rw [hAe]; exact hD⟩, hS.F ht⟩) hS.2.2 dX11_ticks_35
  · refine lv_aload_n hx hb dX11_ticks_24 rfl (lv_at hl 0 rfl) ?_
    refine lv_iload_n hx hb dX11_ticks_25 rfl (lv_at hl 1 rfl) ?_
    obtain ⟨hP, hD⟩ := ty_ipPD (E1 := []) (E2 := [(rf_MO mo mw ma mf m0 m1 mu mv u0 u1 iz th mb mn mpt mbg mwr mwk mlf y_8), (rf_RW ct 0 mw 958 f_9), (mu, .inl (ct 1, 42, .inr (.inl g_10)))]) hP hD rfl ty_mva
    refine ty_Kv hP hD hS hA (va_runV (As := [.int y_7]) (rest := []) ⟨hx, hb, hml, hown, hts⟩ (m_X11_goes l D ct S ws ph xx mo mw ma mf m0 m1 mu mv u0 u1 iz mb th mn mpt mbg mwr mwk mlf y_8 f_9 G g_10 y_7 _ hT hph hy1 hy11 hR_13 ⟨hex_13.1.1, (show y_7.toInt < (G 9).toInt from by rw [← hR_13.2.1.2.2.2.2.1]; exact rf_ylt rfl hc_11)⟩) (cm_V 1 hts kc_X11_goes ki_RX11 kl_RX11_323 kv_X11_goes kx_X11_goes kd_X11_goes ⟨Nat.le_of_ble_eq_true rfl, Nat.le_of_ble_eq_true rfl⟩) (ty_preE (ci := 11) (q0 := 0) hP hK hD hS hA hX rfl rfl) rfl rfl hl.1 rfl (lv_room (Nat.le_of_ble_eq_true rfl)) dX11_ticks_26 ⟨Nat.le_of_ble_eq_true rfl, Nat.le_of_ble_eq_true rfl⟩) (fun u H locs hw_13 hP hD hS => ?_)
    obtain ⟨ws_14, men1_15, f1_16, su1_17⟩ := u
    obtain ⟨hT, hp_18⟩ := hw_13
    have hp_18 : (q_X11_goes y_8 f_9 G g_10 y_7 men1_15 f1_16 su1_17) ∧ rf_d (f_9 8) f_9 f1_16 ∧ rf_R G (-1) f1_16 := hp_18
    obtain ⟨hq_19, hp_20⟩ := hp_18
    obtain ⟨hd_21, hq_22⟩ := hp_20
    have hD_23 := rf_dt hD_13 hd_21
    have hR_24 := hq_22
    obtain ⟨hP, hD⟩ := ty_shPD (w2 := ([(rf_MO mo mw ma mf m0 m1 mu mv u0 u1 iz th mb mn mpt mbg mwr mwk mlf men1_15), (rf_RW ct 0 mw 958 f1_16), (mu, .inl (ct 1, 42, .inr (.inl su1_17)))] ++ ws_14)) hP hD rfl
    refine lv_iinc (v := (y_7 + Int32.ofInt 1)) (lv' := [(1, .int (y_7 + Int32.ofInt 1)), (0, .ref mo)]) hx hb dX11_ticks_29 hl (k := 1) rfl rfl (by decide) rfl (fun ls hl => ?_)
    refine lv_goto (tgt := 13) hx hb dX11_ticks_32 (by decide) ?_
    exact ih_13 _ _ _ _ (ty_inc (cm_lt hc_11)) ⟨ws_14, (y_7 + Int32.ofInt 1), men1_15, f1_16, su1_17, rfl, hT, hP, hD, hS, (lv_sub hl [1, 0] rfl), hR_24, hD_23, ⟨⟨ty_nn hex_13.1.1 (cm_lt hc_11), (by have := hex_13.1; have := (show y_7.toInt < (G 9).toInt from by rw [← hR_13.2.1.2.2.2.2.1]; exact rf_ylt rfl hc_11); have := hR.1.2.2.1; have e9 := rf_oi (n := y_7) (by omega); omega)⟩, q_gss hex_13.1.1 (by have := (show y_7.toInt < (G 9).toInt from by rw [← hR_13.2.1.2.2.2.2.1]; exact rf_ylt rfl hc_11); have := hR.1.2.2.1; omega) hex_13.2 hq_19⟩⟩
def q_X11_alone (men : Int32) (f : Nat → Int32) (G : Nat → Int32) (su : Nat → Int64) (p1 : Int32) (men1 : Int32) (f1 : Nat → Int32) (su1 : Nat → Int64) : Prop := (∃ (f_1 : Nat → Int32), (upd f (8 : Int32).toNatClampNeg ((f 8) + 1)) = f_1 ∧ (∃ (men1_10 : Int32) (f1_11 : Nat → Int32) (su1_12 : Nat → Int64), (q_X11_goes men f_1 G su p1 men1_10 f1_11 su1_12) ∧ (men1 = men1_10 ∧ f1 = f1_11 ∧ su1 = su1_12)))
set_option maxRecDepth 100000 in
set_option maxHeartbeats 4000000 in
theorem m_X11_alone (l : Launch) (D : va_G) (ct : Nat → ClassId) (S : ty_S) (ws : va_W) (ph : va_W → Prop) (xx : Nat → Nat → Nat → Prop) (mo : Nat) (mw : Nat) (ma : Nat) (mf : Nat) (m0 : Nat) (m1 : Nat) (mu : Nat) (mv : Nat) (u0 : Nat) (u1 : Nat) (iz : Nat) (mb : Nat) (th : Int32) (mn : Int32) (mpt : Int32) (mbg : Int32) (mwr : Int32) (mwk : Int32) (mlf : Int32) (men : Int32) (f : Nat → Int32) (G : Nat → Int32) (su : Nat → Int64) (p1 : Int32) (sz : Nat) (hT : ty_V ct S ph ws) (hph : ty_C ph xx) (hy1 : ty_y1 xx) (hy11 : ty_y0 xx 11) (hR : rf_R G (-1) f) (hc : 0 ≤ p1.toInt ∧ p1.toInt < (G 9).toInt) : Met l yX11_alone (ws_ yX11_alone cX11_alone 2 none) ({ frames := 7, cells := 0, slots := 0, locals := 165 } : Room) (va_Pc [.ref mo, .int p1] (cmP D ct sz ([(rf_MO mo mw ma mf m0 m1 mu mv u0 u1 iz th mb mn mpt mbg mwr mwk mlf men), (rf_RW ct 0 mw 958 f), (mu, .inl (ct 1, 42, .inr (.inl su)))] ++ ws))) (va_Qv (fun (u : va_W × Int32 × (Nat → Int32) × (Nat → Int64)) => match u with | (u9, men1, f1, su1) => ty_V ct S ph u9 ∧ (q_X11_alone men f G su p1 men1 f1 su1) ∧ rf_d ((f 8) + 1) f f1 ∧ rf_R G (-1) f1) (cmB D ([(rf_MO mo mw ma mf m0 m1 mu mv u0 u1 iz th mb mn mpt mbg mwr mwk mlf men), (rf_RW ct 0 mw 958 f), (mu, .inl (ct 1, 42, .inr (.inl su)))] ++ ws) sz (fun (u : va_W × Int32 × (Nat → Int32) × (Nat → Int64)) => match u with | (u9, men1, f1, su1) => ([(rf_MO mo mw ma mf m0 m1 mu mv u0 u1 iz th mb mn mpt mbg mwr mwk mlf men1), (rf_RW ct 0 mw 958 f1), (mu, .inl (ct 1, 42, .inr (.inl su1)))] ++ u9))) (va_A ([(rf_MO mo mw ma mf m0 m1 mu mv u0 u1 iz th mb mn mpt mbg mwr mwk mlf men), (rf_RW ct 0 mw 958 f), (mu, .inl (ct 1, 42, .inr (.inl su)))] ++ ws) sz)) 0 0 (va_A ([(rf_MO mo mw ma mf m0 m1 mu mv u0 u1 iz th mb mn mpt mbg mwr mwk mlf men), (rf_RW ct 0 mw 958 f), (mu, .inl (ct 1, 42, .inr (.inl su)))] ++ ws) sz) := by
  refine Met.ofW (cc := cX11_alone) (maxL := 2) (ret := none) (by decide) rfl ?_
  intro p e s m args below meth c s₁ B hml hv
  obtain ⟨rfl, hsz, hP, hK, hD0, hX⟩ := hv
  have hx := B.exec
  have hb := B.bytes
  have hr := B.returns
  have hts := ws_all (atoms_spec (ws := ws_ yX11_alone cX11_alone 2 none) B.pre)
  have hown : s.vm.findClass RX11 = some m.cls := findClass_of_methodNamed B.named
  have hlocks := B.notSynchronized
  subst hsz
  have hD := hD0.self (sz := s.heap.size)
  generalize hAe : va_A ([(rf_MO mo mw ma mf m0 m1 mu mv u0 u1 iz th mb mn mpt mbg mwr mwk mlf men), (rf_RW ct 0 mw 958 f), (mu, .inl (ct 1, 42, .inr (.inl su)))] ++ ws) s.heap.size = A at hD hX ⊢
  have hA : ∀ q : Nat, s.heap.size ≤ q → A q := fun q h => by rw [← hAe]; exact Or.inr h
  have hS : va_S A s.heap s.heap [] := va_S.rf
  have hl := lv_entry ([.ref mo, .int p1]) (n := 2) (Nat.le_of_ble_eq_true rfl)
  rw [lg_entry_eq]
  generalize (lg_sl ([.ref mo, .int p1]) ++ List.replicate (2 - (lg_sl ([.ref mo, .int p1])).length) Slot.unset).toArray = ls at hl ⊢
  have hl : lv_has ls 2 [(0, .ref mo), (1, .int p1)] := hl
  refine lv_aload_n hx hb dX11_alone_0 rfl (lv_at hl 0 rfl) ?_
  refine va_get (v := .ref mw) (D := D) (ci := 11) (C := RX11) (T := TX11) (N := 19) hx hb hts in_X11 hown hK hP 0 rfl rfl 0 (by decide) (hts _ kl_RX11_9) (fun _ h9 => h9) rfl dX11_alone_1 ?_
  refine lv_bipush (v := 8) hx hb dX11_alone_4 (by decide) ?_
  refine lv_dup2_11 hx hb dX11_alone_6 rfl rfl ?_
  refine va_iald hx hb hK hP 1 0 rfl rfl (cm_vin (by decide)) dX11_alone_7 ?_
  refine cm_cst (y := (f 8)) (by first | rfl | decide +kernel) ?_
  refine lv_iconst (v := 1) hx hb dX11_alone_8 (by decide) ?_
  refine lv_iadd hx hb dX11_alone_9 ?_
  refine va_iast hx hb hK hP hD hS 1 0 rfl rfl (cm_vin (by decide)) dX11_alone_10 (fun H locs hP hD hS => ?_)
  have hP : va_P D vwCl ([(rf_MO mo mw ma mf m0 m1 mu mv u0 u1 iz th mb mn mpt mbg mwr mwk mlf men), (rf_RW ct 0 mw 958 (upd f (8 : Int32).toNatClampNeg ((f 8) + 1))), (mu, .inl (ct 1, 42, .inr (.inl su)))] ++ ws) H := hP
  have hD : va_D A ([(rf_MO mo mw ma mf m0 m1 mu mv u0 u1 iz th mb mn mpt mbg mwr mwk mlf men), (rf_RW ct 0 mw 958 (upd f (8 : Int32).toNatClampNeg ((f 8) + 1))), (mu, .inl (ct 1, 42, .inr (.inl su)))] ++ ws) := hD
  have hU_2 : rf_R G (-1) (upd f (8 : Int32).toNatClampNeg ((f 8) + 1)) ∧ rf_sm f (upd f (8 : Int32).toNatClampNeg ((f 8) + 1)) := (rf_free _ hR (Or.inl (by decide)))
  generalize hf_5 : (upd f (8 : Int32).toNatClampNeg ((f 8) + 1)) = f_1 at hP hD hU_2
  have hD_6 := rf_dk (rf_dr f) hf_5 (by decide) rfl
  have hR_3 := hU_2.1
  have hM_4 := rf_smt (rf_smr f) hU_2.2
  refine lv_aload_n hx hb dX11_alone_11 rfl (lv_at hl 0 rfl) ?_
  refine lv_iload_n hx hb dX11_alone_12 rfl (lv_at hl 1 rfl) ?_
  obtain ⟨hP, hD⟩ := ty_ipPD (E1 := []) (E2 := [(rf_MO mo mw ma mf m0 m1 mu mv u0 u1 iz th mb mn mpt mbg mwr mwk mlf men), (rf_RW ct 0 mw 958 f_1), (mu, .inl (ct 1, 42, .inr (.inl su)))]) hP hD rfl ty_mva
  refine ty_Kv hP hD hS hA (va_runV (As := [.int p1]) (rest := []) ⟨hx, hb, hml, hown, hts⟩ (m_X11_goes l D ct S ws ph xx mo mw ma mf m0 m1 mu mv u0 u1 iz mb th mn mpt mbg mwr mwk mlf men f_1 G su p1 _ hT hph hy1 hy11 hR_3 hc) (cm_V 1 hts kc_X11_goes ki_RX11 kl_RX11_323 kv_X11_goes kx_X11_goes kd_X11_goes ⟨Nat.le_of_ble_eq_true rfl, Nat.le_of_ble_eq_true rfl⟩) (ty_preE (ci := 11) (q0 := 0) hP hK hD hS hA hX rfl rfl) rfl rfl hl.1 rfl (lv_room (Nat.le_of_ble_eq_true rfl)) dX11_alone_13 ⟨Nat.le_of_ble_eq_true rfl, Nat.le_of_ble_eq_true rfl⟩) (fun u H locs hw_8 hP hD hS => ?_)
  obtain ⟨ws_9, men1_10, f1_11, su1_12⟩ := u
  obtain ⟨hT, hp_13⟩ := hw_8
  have hp_13 : (q_X11_goes men f_1 G su p1 men1_10 f1_11 su1_12) ∧ rf_d (f_1 8) f_1 f1_11 ∧ rf_R G (-1) f1_11 := hp_13
  obtain ⟨hq_14, hp_15⟩ := hp_13
  obtain ⟨hd_16, hq_17⟩ := hp_15
  have hD_18 := rf_dt hD_6 hd_16
  have hR_19 := hq_17
  obtain ⟨hP, hD⟩ := ty_shPD (w2 := ([(rf_MO mo mw ma mf m0 m1 mu mv u0 u1 iz th mb mn mpt mbg mwr mwk mlf men1_10), (rf_RW ct 0 mw 958 f1_11), (mu, .inl (ct 1, 42, .inr (.inl su1_12)))] ++ ws_9)) hP hD rfl
  exact W.vret hx hb hr (fun t ht hW => ⟨⟨(ws_9, men1_10, f1_11, su1_12), rfl, ⟨hT, ⟨⟨f_1, hf_5, ⟨men1_10, f1_11, su1_12, hq_14, ⟨rfl, rfl, rfl⟩⟩⟩, ⟨hD_18, hR_19⟩⟩⟩, by rw [ht]; exact hP, by rw [hAe]; exact hD⟩, hS.F ht⟩) hS.2.2 dX11_alone_16
/-- ticks of a channel alone, while P holds -/
def q_ch (G : Nat → Int32) (c : Int32) (P : Int32 → (Nat → Int32) → Prop) : Nat → Int32 → (Nat → Int32) → (Nat → Int64) → Int32 → (Nat → Int32) → (Nat → Int64) → Prop
  | 0, e, f, s, e1, f1, s1 => e1 = e ∧ f1 = f ∧ s1 = s
  | n + 1, e, f, s, e1, f1, s1 => ∃ (e2 : Int32) (f2 : Nat → Int32) (s2 : Nat → Int64), q_ch G c P n e f s e2 f2 s2 ∧ P e2 f2 ∧ q_X11_alone e2 f2 G s2 c e1 f1 s1
theorem q_ch0 {G f : Nat → Int32} {c e : Int32} {P : Int32 → (Nat → Int32) → Prop} {s : Nat → Int64} : q_ch G c P (0 : Int32).toInt.toNat e f s e f s := by
  rw [show (0 : Int32).toInt.toNat = 0 from by decide]
  exact ⟨rfl, rfl, rfl⟩
theorem q_chs {G f f2 f1 : Nat → Int32} {c y p e e2 e1 : Int32} {P : Int32 → (Nat → Int32) → Prop} {s s2 s1 : Nat → Int64} (h0 : 0 ≤ y.toInt) (h : ¬ p ≤ y) (a : q_ch G c P y.toInt.toNat e f s e2 f2 s2) (hp : P e2 f2) (b : q_X11_alone e2 f2 G s2 c e1 f1 s1) : q_ch G c P (y + Int32.ofInt 1).toInt.toNat e f s e1 f1 s1 := by
  rw [q_y1 h0 h]
  exact ⟨e2, f2, s2, a, hp, b⟩
theorem q_yb {y p : Int32} {B : Int} (e : p.toInt = B) (h0 : 0 ≤ y.toInt ∧ y.toInt ≤ B) (h : ¬ p ≤ y) : 0 ≤ (y + Int32.ofInt 1).toInt ∧ (y + Int32.ofInt 1).toInt ≤ B := by
  have k := q_y1 h0.1 h
  rw [Int32.le_iff_toInt_le, e] at h
  have := p.toInt_lt
  have e1 : (y + 1).toInt = y.toInt + 1 := by
    rw [Jvm.Kit.i32_add (by have : (1 : Int32).toInt = 1 := (by decide); omega) (by have : (1 : Int32).toInt = 1 := (by decide); omega)]
    have : (1 : Int32).toInt = 1 := by decide
    omega
  show 0 ≤ (y + 1).toInt ∧ (y + 1).toInt ≤ B
  omega
theorem q_chk {G f f2 f1 : Nat → Int32} {c y e e2 e1 : Int32} {P : Int32 → (Nat → Int32) → Prop} {s s2 s1 : Nat → Int64} (h0 : 0 ≤ y.toInt) (h : ¬ (10000 : Int32) < y) (a : q_ch G c P y.toInt.toNat e f s e2 f2 s2) (hp : P e2 f2) (b : q_X11_alone e2 f2 G s2 c e1 f1 s1) : (0 ≤ (y + Int32.ofInt 1).toInt ∧ (y + Int32.ofInt 1).toInt ≤ 10001) ∧ q_ch G c P (y + Int32.ofInt 1).toInt.toNat e f s e1 f1 s1 := by
  rw [Int32.lt_iff_toInt_lt, show (10000 : Int32).toInt = 10000 from by decide] at h
  have e1 : (y + 1).toInt = y.toInt + 1 := rf_p1 (by omega)
  have k : (y + Int32.ofInt 1).toInt.toNat = y.toInt.toNat + 1 := by show (y + 1).toInt.toNat = _; omega
  refine ⟨by show 0 ≤ (y + 1).toInt ∧ (y + 1).toInt ≤ 10001; omega, ?_⟩
  rw [k]
  exact ⟨e2, f2, s2, a, hp, b⟩
/-- the greatest temperature on the way -/
def q_pk (G : Nat → Int32) (c : Int32) : Nat → Int32 → Int32 → (Nat → Int32) → (Nat → Int64) → Int32 → Int32 → (Nat → Int32) → (Nat → Int64) → Prop
  | 0, m, e, f, s, m1, e1, f1, s1 => m1 = m ∧ e1 = e ∧ f1 = f ∧ s1 = s
  | n + 1, m, e, f, s, m1, e1, f1, s1 => ∃ (m2 e2 : Int32) (f2 : Nat → Int32) (s2 : Nat → Int64), q_pk G c n m e f s m2 e2 f2 s2 ∧ q_X11_alone e2 f2 G s2 c e1 f1 s1 ∧ m1 = (if m2 < rf_of f1 c 9 then rf_of f1 c 9 else m2)
theorem q_pk0 {G f : Nat → Int32} {c m e : Int32} {s : Nat → Int64} : q_pk G c (0 : Int32).toInt.toNat m e f s m e f s := by
  rw [show (0 : Int32).toInt.toNat = 0 from by decide]
  exact ⟨rfl, rfl, rfl, rfl⟩
theorem q_pks {G f f2 f1 : Nat → Int32} {c y p m m2 m1 e e2 e1 : Int32} {s s2 s1 : Nat → Int64} (h0 : 0 ≤ y.toInt) (h : ¬ p ≤ y) (a : q_pk G c y.toInt.toNat m e f s m2 e2 f2 s2) (b : q_X11_alone e2 f2 G s2 c e1 f1 s1) (hm : m1 = (if m2 < rf_of f1 c 9 then rf_of f1 c 9 else m2)) : q_pk G c (y + Int32.ofInt 1).toInt.toNat m e f s m1 e1 f1 s1 := by
  rw [q_y1 h0 h]
  exact ⟨m2, e2, f2, s2, a, b, hm⟩
