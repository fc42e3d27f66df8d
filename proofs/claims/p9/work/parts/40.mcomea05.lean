set_option maxRecDepth 100000 in
set_option maxHeartbeats 4000000 in
theorem m_X11_startsOn (l : Launch) (D : va_G) (ct : Nat → ClassId) (S : ty_S) (ws : va_W) (ph : va_W → Prop) (xx : Nat → Nat → Nat → Prop) (mo : Nat) (mw : Nat) (ma : Nat) (mf : Nat) (m0 : Nat) (m1 : Nat) (mu : Nat) (mv : Nat) (u0 : Nat) (u1 : Nat) (iz : Nat) (mb : Nat) (th : Int32) (mn : Int32) (mpt : Int32) (mbg : Int32) (mwr : Int32) (mwk : Int32) (mlf : Int32) (men : Int32) (f : Nat → Int32) (G : Nat → Int32) (cx : Int) (su : Nat → Int64) (p1 : Int32) (p2 : Int32) (sz : Nat) (hT : ty_V ct S ph ws) (hph : ty_C ph xx) (hy1 : ty_y1 xx) (hy11 : ty_y0 xx 11) (hR : rf_R G cx f) (hc : 0 ≤ p1.toInt ∧ p1.toInt < (G 9).toInt) (hcx : cx = -1 ∨ cx = p1.toInt) (hpr : 0 ≤ p2.toInt ∧ p2.toInt < (G 10).toInt) : Met l yX11_startsOn (ws_ yX11_startsOn cX11_startsOn 4 none) ({ frames := 2, cells := 0, slots := 0, locals := 49 } : Room) (va_Pc [.ref mo, .int p1, .int p2] (cmP D ct sz ([(rf_MO mo mw ma mf m0 m1 mu mv u0 u1 iz th mb mn mpt mbg mwr mwk mlf men), (rf_RW ct 0 mw 958 f), (mu, .inl (ct 1, 42, .inr (.inl su)))] ++ ws))) (va_Qv (fun (u : va_W × (Nat → Int32) × (Nat → Int64)) => match u with | (u9, f1, su1) => ty_V ct S ph u9 ∧ (q_X11_startsOn f su p1 p2 f1 su1) ∧ rf_d (f 8) f f1 ∧ rf_R G (-1) f1) (cmB D ([(rf_MO mo mw ma mf m0 m1 mu mv u0 u1 iz th mb mn mpt mbg mwr mwk mlf men), (rf_RW ct 0 mw 958 f), (mu, .inl (ct 1, 42, .inr (.inl su)))] ++ ws) sz (fun (u : va_W × (Nat → Int32) × (Nat → Int64)) => match u with | (u9, f1, su1) => ([(rf_MO mo mw ma mf m0 m1 mu mv u0 u1 iz th mb mn mpt mbg mwr mwk mlf men), (rf_RW ct 0 mw 958 f1), (mu, .inl (ct 1, 42, .inr (.inl su1)))] ++ u9))) (va_A ([(rf_MO mo mw ma mf m0 m1 mu mv u0 u1 iz th mb mn mpt mbg mwr mwk mlf men), (rf_RW ct 0 mw 958 f), (mu, .inl (ct 1, 42, .inr (.inl su)))] ++ ws) sz)) 0 0 (va_A ([(rf_MO mo mw ma mf m0 m1 mu mv u0 u1 iz th mb mn mpt mbg mwr mwk mlf men), (rf_RW ct 0 mw 958 f), (mu, .inl (ct 1, 42, .inr (.inl su)))] ++ ws) sz) := by
  refine Met.ofW (cc := cX11_startsOn) (maxL := 4) (ret := none) (by decide) rfl ?_
  intro p e s m args below meth c s₁ B hml hv
  obtain ⟨rfl, hsz, hP, hK, hD0, hX⟩ := hv
  have hx := B.exec
  have hb := B.bytes
  have hr := B.returns
  have hts := ws_all (atoms_spec (ws := ws_ yX11_startsOn cX11_startsOn 4 none) B.pre)
  have hown : s.vm.findClass RX11 = some m.cls := findClass_of_methodNamed B.named
  have hlocks := B.notSynchronized
  subst hsz
  have hD := hD0.self (sz := s.heap.size)
  generalize hAe : va_A ([(rf_MO mo mw ma mf m0 m1 mu mv u0 u1 iz th mb mn mpt mbg mwr mwk mlf men), (rf_RW ct 0 mw 958 f), (mu, .inl (ct 1, 42, .inr (.inl su)))] ++ ws) s.heap.size = A at hD hX ⊢
  have hA : ∀ q : Nat, s.heap.size ≤ q → A q := fun q h => by rw [← hAe]; exact Or.inr h
  have hS : va_S A s.heap s.heap [] := va_S.rf
  have hl := lv_entry ([.ref mo, .int p1, .int p2]) (n := 4) (Nat.le_of_ble_eq_true rfl)
  rw [lg_entry_eq]
  generalize (lg_sl ([.ref mo, .int p1, .int p2]) ++ List.replicate (4 - (lg_sl ([.ref mo, .int p1, .int p2])).length) Slot.unset).toArray = ls at hl ⊢
  have hl : lv_has ls 4 [(0, .ref mo), (1, .int p1), (2, .int p2)] := hl
  refine lv_aload_n hx hb dX11_startsOn_0 rfl (lv_at hl 0 rfl) ?_
  refine lv_iload_n hx hb dX11_startsOn_1 rfl (lv_at hl 1 rfl) ?_
  refine lv_iconst (v := 0) hx hb dX11_startsOn_2 (by decide) ?_
  refine lv_iconst (v := 1) hx hb dX11_startsOn_3 (by decide) ?_
  obtain ⟨hP, hD⟩ := ty_opPD (E1 := [(mu, .inl (ct 1, 42, .inr (.inl su)))]) (E2 := [(rf_MO mo mw ma mf m0 m1 mu mv u0 u1 iz th mb mn mpt mbg mwr mwk mlf men), (rf_RW ct 0 mw 958 f)]) (n := 3) [2, 0, 1] hP hD rfl rfl (by decide +kernel) ty_mva
  refine ty_Kv hP hD hS hA (va_runV (As := [.int p1, .int 0, .int 1]) (rest := []) ⟨hx, hb, hml, hown, hts⟩ (m_put_0 l D ct S ws ph xx mo mw ma mf m0 m1 mu mv u0 u1 iz mb th mn mpt mbg mwr mwk mlf men f G cx p1 (1 : Int32) _ hT hph hy1 hR hc hcx) (cm_V 3 hts kc_X11_put ki_RX11 kl_RX11_234 kv_X11_put kx_X11_put kd_X11_put ⟨Nat.le_of_ble_eq_true rfl, Nat.le_of_ble_eq_true rfl⟩) (ty_preE (ci := 11) (q0 := 1) hP hK hD hS hA hX rfl rfl) rfl rfl hl.1 rfl (lv_room (Nat.le_of_ble_eq_true rfl)) dX11_startsOn_4 ⟨Nat.le_of_ble_eq_true rfl, Nat.le_of_ble_eq_true rfl⟩) (fun u H locs hw_2 hP hD hS => ?_)
  obtain ⟨ws_3, f1_4⟩ := u
  obtain ⟨hT, hp_5⟩ := hw_2
  have hp_5 : rf_d (f 8) f f1_4 ∧ rf_R G p1.toInt f1_4 ∧ f1_4 = upd f (244 + 54 * p1.toInt.toNat + 0) (1 : Int32) := hp_5
  obtain ⟨hd_6, hq_7⟩ := hp_5
  have hD_8 := rf_dt (rf_dr f) hd_6
  have hR_9 := hq_7.1
  obtain ⟨hP, hD⟩ := ty_shPD (w2 := ([(mu, .inl (ct 1, 42, .inr (.inl su))), (rf_MO mo mw ma mf m0 m1 mu mv u0 u1 iz th mb mn mpt mbg mwr mwk mlf men), (rf_RW ct 0 mw 958 f1_4)] ++ ws_3)) hP hD rfl
  refine lv_aload_n hx hb dX11_startsOn_7 rfl (lv_at hl 0 rfl) ?_
  refine lv_iload_n hx hb dX11_startsOn_8 rfl (lv_at hl 1 rfl) ?_
  refine lv_iconst (v := 1) hx hb dX11_startsOn_9 (by decide) ?_
  refine lv_iload_n hx hb dX11_startsOn_10 rfl (lv_at hl 2 rfl) ?_
  obtain ⟨hP, hD⟩ := ty_ipPD (E1 := [(mu, .inl (ct 1, 42, .inr (.inl su)))]) (E2 := [(rf_MO mo mw ma mf m0 m1 mu mv u0 u1 iz th mb mn mpt mbg mwr mwk mlf men), (rf_RW ct 0 mw 958 f1_4)]) hP hD rfl ty_mva
  refine ty_Kv hP hD hS hA (va_runV (As := [.int p1, .int 1, .int p2]) (rest := []) ⟨hx, hb, hml, hown, hts⟩ (m_put_1 l D ct S ws_3 ph xx mo mw ma mf m0 m1 mu mv u0 u1 iz mb th mn mpt mbg mwr mwk mlf men f1_4 G p1.toInt p1 p2 _ hT hph hy1 hR_9 hc (Or.inr rfl) (fun _ => (show -1 ≤ p2.toInt ∧ p2.toInt < (G 10).toInt from by omega))) (cm_V 3 hts kc_X11_put ki_RX11 kl_RX11_234 kv_X11_put kx_X11_put kd_X11_put ⟨Nat.le_of_ble_eq_true rfl, Nat.le_of_ble_eq_true rfl⟩) (ty_preE (ci := 11) (q0 := 1) hP hK hD hS hA hX rfl rfl) rfl rfl hl.1 rfl (lv_room (Nat.le_of_ble_eq_true rfl)) dX11_startsOn_11 ⟨Nat.le_of_ble_eq_true rfl, Nat.le_of_ble_eq_true rfl⟩) (fun u H locs hw_12 hP hD hS => ?_)
  obtain ⟨ws_13, f1_14⟩ := u
  obtain ⟨hT, hp_15⟩ := hw_12
  have hp_15 : rf_d (f1_4 8) f1_4 f1_14 ∧ rf_R G p1.toInt f1_14 ∧ f1_14 = upd f1_4 (244 + 54 * p1.toInt.toNat + 1) p2 := hp_15
  obtain ⟨hd_16, hq_17⟩ := hp_15
  have hD_18 := rf_dt hD_8 hd_16
  have hR_19 := hq_17.1
  obtain ⟨hP, hD⟩ := ty_shPD (w2 := ([(mu, .inl (ct 1, 42, .inr (.inl su))), (rf_MO mo mw ma mf m0 m1 mu mv u0 u1 iz th mb mn mpt mbg mwr mwk mlf men), (rf_RW ct 0 mw 958 f1_14)] ++ ws_13)) hP hD rfl
  have pg_21 : rf_of f1_14 p1 1 = p2 := by rw [hq_17.2]; exact rf_eq
  refine lv_iconst (v := 0) hx hb dX11_startsOn_14 (by decide) ?_
  refine lv_istore_n (lv' := [(3, .int 0), (0, .ref mo), (1, .int p1), (2, .int p2)]) hx hb dX11_startsOn_15 rfl hl (by decide) rfl (fun ls hl => ?_)
  refine lv_iload_n hx hb dX11_startsOn_16 rfl (lv_at hl 0 rfl) ?_
  refine lv_bipush (v := 12) hx hb dX11_startsOn_17 (by decide) ?_
  refine lv_icmp_ge (tgt := 38) hx hb dX11_startsOn_19 (by decide) (fun hc => absurd hc (by decide)) (fun _ => ?_)
  refine lv_aload_n hx hb dX11_startsOn_22 rfl (lv_at hl 1 rfl) ?_
  refine lv_iload_n hx hb dX11_startsOn_23 rfl (lv_at hl 2 rfl) ?_
  refine lv_bipush (v := 24) hx hb dX11_startsOn_24 (by decide) ?_
  refine lv_iload_n hx hb dX11_startsOn_26 rfl (lv_at hl 0 rfl) ?_
  refine lv_iadd hx hb dX11_startsOn_27 ?_
  refine cm_cst (y := 24) (by decide) ?_
  refine lv_iconst (v := 0) hx hb dX11_startsOn_28 (by decide) ?_
  obtain ⟨hP, hD⟩ := ty_ipPD (E1 := [(mu, .inl (ct 1, 42, .inr (.inl su)))]) (E2 := [(rf_MO mo mw ma mf m0 m1 mu mv u0 u1 iz th mb mn mpt mbg mwr mwk mlf men), (rf_RW ct 0 mw 958 f1_14)]) hP hD rfl ty_mva
  refine ty_Kv hP hD hS hA (va_runV (As := [.int p1, .int 24, .int 0]) (rest := []) ⟨hx, hb, hml, hown, hts⟩ (m_put_24 l D ct S ws_13 ph xx mo mw ma mf m0 m1 mu mv u0 u1 iz mb th mn mpt mbg mwr mwk mlf men f1_14 G p1.toInt p1 (0 : Int32) _ hT hph hy1 hR_19 hc (fun _ => (show 0 ≤ (0 : Int32).toInt from by decide))) (cm_V 3 hts kc_X11_put ki_RX11 kl_RX11_234 kv_X11_put kx_X11_put kd_X11_put ⟨Nat.le_of_ble_eq_true rfl, Nat.le_of_ble_eq_true rfl⟩) (ty_preE (ci := 11) (q0 := 1) hP hK hD hS hA hX rfl rfl) rfl rfl hl.1 rfl (lv_room (Nat.le_of_ble_eq_true rfl)) dX11_startsOn_29 ⟨Nat.le_of_ble_eq_true rfl, Nat.le_of_ble_eq_true rfl⟩) (fun u H locs hw_23 hP hD hS => ?_)
  obtain ⟨ws_24, f1_25⟩ := u
  obtain ⟨hT, hp_26⟩ := hw_23
  have hp_26 : rf_d (f1_14 8) f1_14 f1_25 ∧ rf_R G p1.toInt f1_25 ∧ rf_sm f1_14 f1_25 ∧ f1_25 = upd f1_14 (244 + 54 * p1.toInt.toNat + 24) (0 : Int32) := hp_26
  obtain ⟨hd_27, hq_28⟩ := hp_26
  have hD_29 := rf_dt hD_18 hd_27
  have hR_30 := hq_28.1
  have pg_32 := (rf_smof (rf_c6 hR_19 hc) hq_28.2.1 (k := 1) (by decide)).trans pg_21
  obtain ⟨hP, hD⟩ := ty_shPD (w2 := ([(mu, .inl (ct 1, 42, .inr (.inl su))), (rf_MO mo mw ma mf m0 m1 mu mv u0 u1 iz th mb mn mpt mbg mwr mwk mlf men), (rf_RW ct 0 mw 958 f1_25)] ++ ws_24)) hP hD rfl
  refine lv_iinc (v := 1) (lv' := [(3, .int 1), (0, .ref mo), (1, .int p1), (2, .int p2)]) hx hb dX11_startsOn_32 hl (k := 0) rfl (by decide) (by decide) rfl (fun ls hl => ?_)
  refine lv_goto (tgt := 16) hx hb dX11_startsOn_35 (by decide) ?_
  refine lv_iload_n hx hb dX11_startsOn_16 rfl (lv_at hl 0 rfl) ?_
  refine lv_bipush (v := 12) hx hb dX11_startsOn_17 (by decide) ?_
  refine lv_icmp_ge (tgt := 38) hx hb dX11_startsOn_19 (by decide) (fun hc => absurd hc (by decide)) (fun _ => ?_)
  refine lv_aload_n hx hb dX11_startsOn_22 rfl (lv_at hl 1 rfl) ?_
  refine lv_iload_n hx hb dX11_startsOn_23 rfl (lv_at hl 2 rfl) ?_
  refine lv_bipush (v := 24) hx hb dX11_startsOn_24 (by decide) ?_
  refine lv_iload_n hx hb dX11_startsOn_26 rfl (lv_at hl 0 rfl) ?_
  refine lv_iadd hx hb dX11_startsOn_27 ?_
  refine cm_cst (y := 25) (by decide) ?_
  refine lv_iconst (v := 0) hx hb dX11_startsOn_28 (by decide) ?_
  obtain ⟨hP, hD⟩ := ty_ipPD (E1 := [(mu, .inl (ct 1, 42, .inr (.inl su)))]) (E2 := [(rf_MO mo mw ma mf m0 m1 mu mv u0 u1 iz th mb mn mpt mbg mwr mwk mlf men), (rf_RW ct 0 mw 958 f1_25)]) hP hD rfl ty_mva
  refine ty_Kv hP hD hS hA (va_runV (As := [.int p1, .int 25, .int 0]) (rest := []) ⟨hx, hb, hml, hown, hts⟩ (m_put_25 l D ct S ws_24 ph xx mo mw ma mf m0 m1 mu mv u0 u1 iz mb th mn mpt mbg mwr mwk mlf men f1_25 G p1.toInt p1 (0 : Int32) _ hT hph hy1 hR_30 hc (fun _ => (show 0 ≤ (0 : Int32).toInt from by decide))) (cm_V 3 hts kc_X11_put ki_RX11 kl_RX11_234 kv_X11_put kx_X11_put kd_X11_put ⟨Nat.le_of_ble_eq_true rfl, Nat.le_of_ble_eq_true rfl⟩) (ty_preE (ci := 11) (q0 := 1) hP hK hD hS hA hX rfl rfl) rfl rfl hl.1 rfl (lv_room (Nat.le_of_ble_eq_true rfl)) dX11_startsOn_29 ⟨Nat.le_of_ble_eq_true rfl, Nat.le_of_ble_eq_true rfl⟩) (fun u H locs hw_34 hP hD hS => ?_)
  obtain ⟨ws_35, f1_36⟩ := u
  obtain ⟨hT, hp_37⟩ := hw_34
  have hp_37 : rf_d (f1_25 8) f1_25 f1_36 ∧ rf_R G p1.toInt f1_36 ∧ rf_sm f1_25 f1_36 ∧ f1_36 = upd f1_25 (244 + 54 * p1.toInt.toNat + 25) (0 : Int32) := hp_37
  obtain ⟨hd_38, hq_39⟩ := hp_37
  have hD_40 := rf_dt hD_29 hd_38
  have hR_41 := hq_39.1
  have pg_43 := (rf_smof (rf_c6 hR_30 hc) hq_39.2.1 (k := 1) (by decide)).trans pg_32
  obtain ⟨hP, hD⟩ := ty_shPD (w2 := ([(mu, .inl (ct 1, 42, .inr (.inl su))), (rf_MO mo mw ma mf m0 m1 mu mv u0 u1 iz th mb mn mpt mbg mwr mwk mlf men), (rf_RW ct 0 mw 958 f1_36)] ++ ws_35)) hP hD rfl
  refine lv_iinc (v := 2) (lv' := [(3, .int 2), (0, .ref mo), (1, .int p1), (2, .int p2)]) hx hb dX11_startsOn_32 hl (k := 0) rfl (by decide) (by decide) rfl (fun ls hl => ?_)
  refine lv_goto (tgt := 16) hx hb dX11_startsOn_35 (by decide) ?_
  refine lv_iload_n hx hb dX11_startsOn_16 rfl (lv_at hl 0 rfl) ?_
  refine lv_bipush (v := 12) hx hb dX11_startsOn_17 (by decide) ?_
  refine lv_icmp_ge (tgt := 38) hx hb dX11_startsOn_19 (by decide) (fun hc => absurd hc (by decide)) (fun _ => ?_)
  refine lv_aload_n hx hb dX11_startsOn_22 rfl (lv_at hl 1 rfl) ?_
  refine lv_iload_n hx hb dX11_startsOn_23 rfl (lv_at hl 2 rfl) ?_
  refine lv_bipush (v := 24) hx hb dX11_startsOn_24 (by decide) ?_
  refine lv_iload_n hx hb dX11_startsOn_26 rfl (lv_at hl 0 rfl) ?_
  refine lv_iadd hx hb dX11_startsOn_27 ?_
  refine cm_cst (y := 26) (by decide) ?_
  refine lv_iconst (v := 0) hx hb dX11_startsOn_28 (by decide) ?_
  obtain ⟨hP, hD⟩ := ty_ipPD (E1 := [(mu, .inl (ct 1, 42, .inr (.inl su)))]) (E2 := [(rf_MO mo mw ma mf m0 m1 mu mv u0 u1 iz th mb mn mpt mbg mwr mwk mlf men), (rf_RW ct 0 mw 958 f1_36)]) hP hD rfl ty_mva
  refine ty_Kv hP hD hS hA (va_runV (As := [.int p1, .int 26, .int 0]) (rest := []) ⟨hx, hb, hml, hown, hts⟩ (m_put_26 l D ct S ws_35 ph xx mo mw ma mf m0 m1 mu mv u0 u1 iz mb th mn mpt mbg mwr mwk mlf men f1_36 G p1.toInt p1 (0 : Int32) _ hT hph hy1 hR_41 hc (fun _ => (show 0 ≤ (0 : Int32).toInt from by decide))) (cm_V 3 hts kc_X11_put ki_RX11 kl_RX11_234 kv_X11_put kx_X11_put kd_X11_put ⟨Nat.le_of_ble_eq_true rfl, Nat.le_of_ble_eq_true rfl⟩) (ty_preE (ci := 11) (q0 := 1) hP hK hD hS hA hX rfl rfl) rfl rfl hl.1 rfl (lv_room (Nat.le_of_ble_eq_true rfl)) dX11_startsOn_29 ⟨Nat.le_of_ble_eq_true rfl, Nat.le_of_ble_eq_true rfl⟩) (fun u H locs hw_45 hP hD hS => ?_)
  obtain ⟨ws_46, f1_47⟩ := u
  obtain ⟨hT, hp_48⟩ := hw_45
  have hp_48 : rf_d (f1_36 8) f1_36 f1_47 ∧ rf_R G p1.toInt f1_47 ∧ rf_sm f1_36 f1_47 ∧ f1_47 = upd f1_36 (244 + 54 * p1.toInt.toNat + 26) (0 : Int32) := hp_48
  obtain ⟨hd_49, hq_50⟩ := hp_48
  have hD_51 := rf_dt hD_40 hd_49
  have hR_52 := hq_50.1
  have pg_54 := (rf_smof (rf_c6 hR_41 hc) hq_50.2.1 (k := 1) (by decide)).trans pg_43
  obtain ⟨hP, hD⟩ := ty_shPD (w2 := ([(mu, .inl (ct 1, 42, .inr (.inl su))), (rf_MO mo mw ma mf m0 m1 mu mv u0 u1 iz th mb mn mpt mbg mwr mwk mlf men), (rf_RW ct 0 mw 958 f1_47)] ++ ws_46)) hP hD rfl
  refine lv_iinc (v := 3) (lv' := [(3, .int 3), (0, .ref mo), (1, .int p1), (2, .int p2)]) hx hb dX11_startsOn_32 hl (k := 0) rfl (by decide) (by decide) rfl (fun ls hl => ?_)
  refine lv_goto (tgt := 16) hx hb dX11_startsOn_35 (by decide) ?_
  refine lv_iload_n hx hb dX11_startsOn_16 rfl (lv_at hl 0 rfl) ?_
  refine lv_bipush (v := 12) hx hb dX11_startsOn_17 (by decide) ?_
  refine lv_icmp_ge (tgt := 38) hx hb dX11_startsOn_19 (by decide) (fun hc => absurd hc (by decide)) (fun _ => ?_)
  refine lv_aload_n hx hb dX11_startsOn_22 rfl (lv_at hl 1 rfl) ?_
  refine lv_iload_n hx hb dX11_startsOn_23 rfl (lv_at hl 2 rfl) ?_
  refine lv_bipush (v := 24) hx hb dX11_startsOn_24 (by decide) ?_
  refine lv_iload_n hx hb dX11_startsOn_26 rfl (lv_at hl 0 rfl) ?_
  refine lv_iadd hx hb dX11_startsOn_27 ?_
  refine cm_cst (y := 27) (by decide) ?_
  refine lv_iconst (v := 0) hx hb dX11_startsOn_28 (by decide) ?_
  obtain ⟨hP, hD⟩ := ty_ipPD (E1 := [(mu, .inl (ct 1, 42, .inr (.inl su)))]) (E2 := [(rf_MO mo mw ma mf m0 m1 mu mv u0 u1 iz th mb mn mpt mbg mwr mwk mlf men), (rf_RW ct 0 mw 958 f1_47)]) hP hD rfl ty_mva
  refine ty_Kv hP hD hS hA (va_runV (As := [.int p1, .int 27, .int 0]) (rest := []) ⟨hx, hb, hml, hown, hts⟩ (m_put_27 l D ct S ws_46 ph xx mo mw ma mf m0 m1 mu mv u0 u1 iz mb th mn mpt mbg mwr mwk mlf men f1_47 G p1.toInt p1 (0 : Int32) _ hT hph hy1 hR_52 hc (fun _ => (show 0 ≤ (0 : Int32).toInt from by decide))) (cm_V 3 hts kc_X11_put ki_RX11 kl_RX11_234 kv_X11_put kx_X11_put kd_X11_put ⟨Nat.le_of_ble_eq_true rfl, Nat.le_of_ble_eq_true rfl⟩) (ty_preE (ci := 11) (q0 := 1) hP hK hD hS hA hX rfl rfl) rfl rfl hl.1 rfl (lv_room (Nat.le_of_ble_eq_true rfl)) dX11_startsOn_29 ⟨Nat.le_of_ble_eq_true rfl, Nat.le_of_ble_eq_true rfl⟩) (fun u H locs hw_56 hP hD hS => ?_)
  obtain ⟨ws_57, f1_58⟩ := u
  obtain ⟨hT, hp_59⟩ := hw_56
  have hp_59 : rf_d (f1_47 8) f1_47 f1_58 ∧ rf_R G p1.toInt f1_58 ∧ rf_sm f1_47 f1_58 ∧ f1_58 = upd f1_47 (244 + 54 * p1.toInt.toNat + 27) (0 : Int32) := hp_59
  obtain ⟨hd_60, hq_61⟩ := hp_59
  have hD_62 := rf_dt hD_51 hd_60
  have hR_63 := hq_61.1
  have pg_65 := (rf_smof (rf_c6 hR_52 hc) hq_61.2.1 (k := 1) (by decide)).trans pg_54
  obtain ⟨hP, hD⟩ := ty_shPD (w2 := ([(mu, .inl (ct 1, 42, .inr (.inl su))), (rf_MO mo mw ma mf m0 m1 mu mv u0 u1 iz th mb mn mpt mbg mwr mwk mlf men), (rf_RW ct 0 mw 958 f1_58)] ++ ws_57)) hP hD rfl
  refine lv_iinc (v := 4) (lv' := [(3, .int 4), (0, .ref mo), (1, .int p1), (2, .int p2)]) hx hb dX11_startsOn_32 hl (k := 0) rfl (by decide) (by decide) rfl (fun ls hl => ?_)
  refine lv_goto (tgt := 16) hx hb dX11_startsOn_35 (by decide) ?_
  refine lv_iload_n hx hb dX11_startsOn_16 rfl (lv_at hl 0 rfl) ?_
  refine lv_bipush (v := 12) hx hb dX11_startsOn_17 (by decide) ?_
  refine lv_icmp_ge (tgt := 38) hx hb dX11_startsOn_19 (by decide) (fun hc => absurd hc (by decide)) (fun _ => ?_)
  refine lv_aload_n hx hb dX11_startsOn_22 rfl (lv_at hl 1 rfl) ?_
  refine lv_iload_n hx hb dX11_startsOn_23 rfl (lv_at hl 2 rfl) ?_
  refine lv_bipush (v := 24) hx hb dX11_startsOn_24 (by decide) ?_
  refine lv_iload_n hx hb dX11_startsOn_26 rfl (lv_at hl 0 rfl) ?_
  refine lv_iadd hx hb dX11_startsOn_27 ?_
  refine cm_cst (y := 28) (by decide) ?_
  refine lv_iconst (v := 0) hx hb dX11_startsOn_28 (by decide) ?_
  obtain ⟨hP, hD⟩ := ty_ipPD (E1 := [(mu, .inl (ct 1, 42, .inr (.inl su)))]) (E2 := [(rf_MO mo mw ma mf m0 m1 mu mv u0 u1 iz th mb mn mpt mbg mwr mwk mlf men), (rf_RW ct 0 mw 958 f1_58)]) hP hD rfl ty_mva
  refine ty_Kv hP hD hS hA (va_runV (As := [.int p1, .int 28, .int 0]) (rest := []) ⟨hx, hb, hml, hown, hts⟩ (m_put_28 l D ct S ws_57 ph xx mo mw ma mf m0 m1 mu mv u0 u1 iz mb th mn mpt mbg mwr mwk mlf men f1_58 G p1.toInt p1 (0 : Int32) _ hT hph hy1 hR_63 hc (fun _ => (show 0 ≤ (0 : Int32).toInt from by decide))) (cm_V 3 hts kc_X11_put ki_RX11 kl_RX11_234 kv_X11_put kx_X11_put kd_X11_put ⟨Nat.le_of_ble_eq_true rfl, Nat.le_of_ble_eq_true rfl⟩) (ty_preE (ci := 11) (q0 := 1) hP hK hD hS hA hX rfl rfl) rfl rfl hl.1 rfl (lv_room (Nat.le_of_ble_eq_true rfl)) dX11_startsOn_29 ⟨Nat.le_of_ble_eq_true rfl, Nat.le_of_ble_eq_true rfl⟩) (fun u H locs hw_67 hP hD hS => ?_)
  obtain ⟨ws_68, f1_69⟩ := u
  obtain ⟨hT, hp_70⟩ := hw_67
  have hp_70 : rf_d (f1_58 8) f1_58 f1_69 ∧ rf_R G p1.toInt f1_69 ∧ rf_sm f1_58 f1_69 ∧ f1_69 = upd f1_58 (244 + 54 * p1.toInt.toNat + 28) (0 : Int32) := hp_70
  obtain ⟨hd_71, hq_72⟩ := hp_70
  have hD_73 := rf_dt hD_62 hd_71
  have hR_74 := hq_72.1
  have pg_76 := (rf_smof (rf_c6 hR_63 hc) hq_72.2.1 (k := 1) (by decide)).trans pg_65
  obtain ⟨hP, hD⟩ := ty_shPD (w2 := ([(mu, .inl (ct 1, 42, .inr (.inl su))), (rf_MO mo mw ma mf m0 m1 mu mv u0 u1 iz th mb mn mpt mbg mwr mwk mlf men), (rf_RW ct 0 mw 958 f1_69)] ++ ws_68)) hP hD rfl
  refine lv_iinc (v := 5) (lv' := [(3, .int 5), (0, .ref mo), (1, .int p1), (2, .int p2)]) hx hb dX11_startsOn_32 hl (k := 0) rfl (by decide) (by decide) rfl (fun ls hl => ?_)
  refine lv_goto (tgt := 16) hx hb dX11_startsOn_35 (by decide) ?_
  refine lv_iload_n hx hb dX11_startsOn_16 rfl (lv_at hl 0 rfl) ?_
  refine lv_bipush (v := 12) hx hb dX11_startsOn_17 (by decide) ?_
  refine lv_icmp_ge (tgt := 38) hx hb dX11_startsOn_19 (by decide) (fun hc => absurd hc (by decide)) (fun _ => ?_)
  refine lv_aload_n hx hb dX11_startsOn_22 rfl (lv_at hl 1 rfl) ?_
  refine lv_iload_n hx hb dX11_startsOn_23 rfl (lv_at hl 2 rfl) ?_
  refine lv_bipush (v := 24) hx hb dX11_startsOn_24 (by decide) ?_
  refine lv_iload_n hx hb dX11_startsOn_26 rfl (lv_at hl 0 rfl) ?_
  refine lv_iadd hx hb dX11_startsOn_27 ?_
  refine cm_cst (y := 29) (by decide) ?_
  refine lv_iconst (v := 0) hx hb dX11_startsOn_28 (by decide) ?_
  obtain ⟨hP, hD⟩ := ty_ipPD (E1 := [(mu, .inl (ct 1, 42, .inr (.inl su)))]) (E2 := [(rf_MO mo mw ma mf m0 m1 mu mv u0 u1 iz th mb mn mpt mbg mwr mwk mlf men), (rf_RW ct 0 mw 958 f1_69)]) hP hD rfl ty_mva
  refine ty_Kv hP hD hS hA (va_runV (As := [.int p1, .int 29, .int 0]) (rest := []) ⟨hx, hb, hml, hown, hts⟩ (m_put_29 l D ct S ws_68 ph xx mo mw ma mf m0 m1 mu mv u0 u1 iz mb th mn mpt mbg mwr mwk mlf men f1_69 G p1.toInt p1 (0 : Int32) _ hT hph hy1 hR_74 hc (fun _ => (show 0 ≤ (0 : Int32).toInt from by decide))) (cm_V 3 hts kc_X11_put ki_RX11 kl_RX11_234 kv_X11_put kx_X11_put kd_X11_put ⟨Nat.le_of_ble_eq_true rfl, Nat.le_of_ble_eq_true rfl⟩) (ty_preE (ci := 11) (q0 := 1) hP hK hD hS hA hX rfl rfl) rfl rfl hl.1 rfl (lv_room (Nat.le_of_ble_eq_true rfl)) dX11_startsOn_29 ⟨Nat.le_of_ble_eq_true rfl, Nat.le_of_ble_eq_true rfl⟩) (fun u H locs hw_78 hP hD hS => ?_)
  obtain ⟨ws_79, f1_80⟩ := u
  obtain ⟨hT, hp_81⟩ := hw_78
  have hp_81 : rf_d (f1_69 8) f1_69 f1_80 ∧ rf_R G p1.toInt f1_80 ∧ rf_sm f1_69 f1_80 ∧ f1_80 = upd f1_69 (244 + 54 * p1.toInt.toNat + 29) (0 : Int32) := hp_81
  obtain ⟨hd_82, hq_83⟩ := hp_81
  have hD_84 := rf_dt hD_73 hd_82
  have hR_85 := hq_83.1
  have pg_87 := (rf_smof (rf_c6 hR_74 hc) hq_83.2.1 (k := 1) (by decide)).trans pg_76
  obtain ⟨hP, hD⟩ := ty_shPD (w2 := ([(mu, .inl (ct 1, 42, .inr (.inl su))), (rf_MO mo mw ma mf m0 m1 mu mv u0 u1 iz th mb mn mpt mbg mwr mwk mlf men), (rf_RW ct 0 mw 958 f1_80)] ++ ws_79)) hP hD rfl
  refine lv_iinc (v := 6) (lv' := [(3, .int 6), (0, .ref mo), (1, .int p1), (2, .int p2)]) hx hb dX11_startsOn_32 hl (k := 0) rfl (by decide) (by decide) rfl (fun ls hl => ?_)
  refine lv_goto (tgt := 16) hx hb dX11_startsOn_35 (by decide) ?_
  refine lv_iload_n hx hb dX11_startsOn_16 rfl (lv_at hl 0 rfl) ?_
  refine lv_bipush (v := 12) hx hb dX11_startsOn_17 (by decide) ?_
  refine lv_icmp_ge (tgt := 38) hx hb dX11_startsOn_19 (by decide) (fun hc => absurd hc (by decide)) (fun _ => ?_)
  refine lv_aload_n hx hb dX11_startsOn_22 rfl (lv_at hl 1 rfl) ?_
  refine lv_iload_n hx hb dX11_startsOn_23 rfl (lv_at hl 2 rfl) ?_
  refine lv_bipush (v := 24) hx hb dX11_startsOn_24 (by decide) ?_
  refine lv_iload_n hx hb dX11_startsOn_26 rfl (lv_at hl 0 rfl) ?_
  refine lv_iadd hx hb dX11_startsOn_27 ?_
  refine cm_cst (y := 30) (by decide) ?_
  refine lv_iconst (v := 0) hx hb dX11_startsOn_28 (by decide) ?_
  obtain ⟨hP, hD⟩ := ty_ipPD (E1 := [(mu, .inl (ct 1, 42, .inr (.inl su)))]) (E2 := [(rf_MO mo mw ma mf m0 m1 mu mv u0 u1 iz th mb mn mpt mbg mwr mwk mlf men), (rf_RW ct 0 mw 958 f1_80)]) hP hD rfl ty_mva
  refine ty_Kv hP hD hS hA (va_runV (As := [.int p1, .int 30, .int 0]) (rest := []) ⟨hx, hb, hml, hown, hts⟩ (m_put_30 l D ct S ws_79 ph xx mo mw ma mf m0 m1 mu mv u0 u1 iz mb th mn mpt mbg mwr mwk mlf men f1_80 G p1.toInt p1 (0 : Int32) _ hT hph hy1 hR_85 hc (fun _ => (show 0 ≤ (0 : Int32).toInt from by decide))) (cm_V 3 hts kc_X11_put ki_RX11 kl_RX11_234 kv_X11_put kx_X11_put kd_X11_put ⟨Nat.le_of_ble_eq_true rfl, Nat.le_of_ble_eq_true rfl⟩) (ty_preE (ci := 11) (q0 := 1) hP hK hD hS hA hX rfl rfl) rfl rfl hl.1 rfl (lv_room (Nat.le_of_ble_eq_true rfl)) dX11_startsOn_29 ⟨Nat.le_of_ble_eq_true rfl, Nat.le_of_ble_eq_true rfl⟩) (fun u H locs hw_89 hP hD hS => ?_)
  obtain ⟨ws_90, f1_91⟩ := u
  obtain ⟨hT, hp_92⟩ := hw_89
  have hp_92 : rf_d (f1_80 8) f1_80 f1_91 ∧ rf_R G p1.toInt f1_91 ∧ rf_sm f1_80 f1_91 ∧ f1_91 = upd f1_80 (244 + 54 * p1.toInt.toNat + 30) (0 : Int32) := hp_92
  obtain ⟨hd_93, hq_94⟩ := hp_92
  have hD_95 := rf_dt hD_84 hd_93
  have hR_96 := hq_94.1
  have pg_98 := (rf_smof (rf_c6 hR_85 hc) hq_94.2.1 (k := 1) (by decide)).trans pg_87
  obtain ⟨hP, hD⟩ := ty_shPD (w2 := ([(mu, .inl (ct 1, 42, .inr (.inl su))), (rf_MO mo mw ma mf m0 m1 mu mv u0 u1 iz th mb mn mpt mbg mwr mwk mlf men), (rf_RW ct 0 mw 958 f1_91)] ++ ws_90)) hP hD rfl
  refine lv_iinc (v := 7) (lv' := [(3, .int 7), (0, .ref mo), (1, .int p1), (2, .int p2)]) hx hb dX11_startsOn_32 hl (k := 0) rfl (by decide) (by decide) rfl (fun ls hl => ?_)
  refine lv_goto (tgt := 16) hx hb dX11_startsOn_35 (by decide) ?_
  refine lv_iload_n hx hb dX11_startsOn_16 rfl (lv_at hl 0 rfl) ?_
  refine lv_bipush (v := 12) hx hb dX11_startsOn_17 (by decide) ?_
  refine lv_icmp_ge (tgt := 38) hx hb dX11_startsOn_19 (by decide) (fun hc => absurd hc (by decide)) (fun _ => ?_)
  refine lv_aload_n hx hb dX11_startsOn_22 rfl (lv_at hl 1 rfl) ?_
  refine lv_iload_n hx hb dX11_startsOn_23 rfl (lv_at hl 2 rfl) ?_
  refine lv_bipush (v := 24) hx hb dX11_startsOn_24 (by decide) ?_
  refine lv_iload_n hx hb dX11_startsOn_26 rfl (lv_at hl 0 rfl) ?_
  refine lv_iadd hx hb dX11_startsOn_27 ?_
  refine cm_cst (y := 31) (by decide) ?_
  refine lv_iconst (v := 0) hx hb dX11_startsOn_28 (by decide) ?_
  obtain ⟨hP, hD⟩ := ty_ipPD (E1 := [(mu, .inl (ct 1, 42, .inr (.inl su)))]) (E2 := [(rf_MO mo mw ma mf m0 m1 mu mv u0 u1 iz th mb mn mpt mbg mwr mwk mlf men), (rf_RW ct 0 mw 958 f1_91)]) hP hD rfl ty_mva
  refine ty_Kv hP hD hS hA (va_runV (As := [.int p1, .int 31, .int 0]) (rest := []) ⟨hx, hb, hml, hown, hts⟩ (m_put_31 l D ct S ws_90 ph xx mo mw ma mf m0 m1 mu mv u0 u1 iz mb th mn mpt mbg mwr mwk mlf men f1_91 G p1.toInt p1 (0 : Int32) _ hT hph hy1 hR_96 hc (fun _ => (show 0 ≤ (0 : Int32).toInt from by decide))) (cm_V 3 hts kc_X11_put ki_RX11 kl_RX11_234 kv_X11_put kx_X11_put kd_X11_put ⟨Nat.le_of_ble_eq_true rfl, Nat.le_of_ble_eq_true rfl⟩) (ty_preE (ci := 11) (q0 := 1) hP hK hD hS hA hX rfl rfl) rfl rfl hl.1 rfl (lv_room (Nat.le_of_ble_eq_true rfl)) dX11_startsOn_29 ⟨Nat.le_of_ble_eq_true rfl, Nat.le_of_ble_eq_true rfl⟩) (fun u H locs hw_100 hP hD hS => ?_)
  obtain ⟨ws_101, f1_102⟩ := u
  obtain ⟨hT, hp_103⟩ := hw_100
  have hp_103 : rf_d (f1_91 8) f1_91 f1_102 ∧ rf_R G p1.toInt f1_102 ∧ rf_sm f1_91 f1_102 ∧ f1_102 = upd f1_91 (244 + 54 * p1.toInt.toNat + 31) (0 : Int32) := hp_103
  obtain ⟨hd_104, hq_105⟩ := hp_103
  have hD_106 := rf_dt hD_95 hd_104
  have hR_107 := hq_105.1
  have pg_109 := (rf_smof (rf_c6 hR_96 hc) hq_105.2.1 (k := 1) (by decide)).trans pg_98
  obtain ⟨hP, hD⟩ := ty_shPD (w2 := ([(mu, .inl (ct 1, 42, .inr (.inl su))), (rf_MO mo mw ma mf m0 m1 mu mv u0 u1 iz th mb mn mpt mbg mwr mwk mlf men), (rf_RW ct 0 mw 958 f1_102)] ++ ws_101)) hP hD rfl
  refine lv_iinc (v := 8) (lv' := [(3, .int 8), (0, .ref mo), (1, .int p1), (2, .int p2)]) hx hb dX11_startsOn_32 hl (k := 0) rfl (by decide) (by decide) rfl (fun ls hl => ?_)
  refine lv_goto (tgt := 16) hx hb dX11_startsOn_35 (by decide) ?_
  refine lv_iload_n hx hb dX11_startsOn_16 rfl (lv_at hl 0 rfl) ?_
  refine lv_bipush (v := 12) hx hb dX11_startsOn_17 (by decide) ?_
  refine lv_icmp_ge (tgt := 38) hx hb dX11_startsOn_19 (by decide) (fun hc => absurd hc (by decide)) (fun _ => ?_)
  refine lv_aload_n hx hb dX11_startsOn_22 rfl (lv_at hl 1 rfl) ?_
  refine lv_iload_n hx hb dX11_startsOn_23 rfl (lv_at hl 2 rfl) ?_
  refine lv_bipush (v := 24) hx hb dX11_startsOn_24 (by decide) ?_
  refine lv_iload_n hx hb dX11_startsOn_26 rfl (lv_at hl 0 rfl) ?_
  refine lv_iadd hx hb dX11_startsOn_27 ?_
  refine cm_cst (y := 32) (by decide) ?_
  refine lv_iconst (v := 0) hx hb dX11_startsOn_28 (by decide) ?_
  obtain ⟨hP, hD⟩ := ty_ipPD (E1 := [(mu, .inl (ct 1, 42, .inr (.inl su)))]) (E2 := [(rf_MO mo mw ma mf m0 m1 mu mv u0 u1 iz th mb mn mpt mbg mwr mwk mlf men), (rf_RW ct 0 mw 958 f1_102)]) hP hD rfl ty_mva
  refine ty_Kv hP hD hS hA (va_runV (As := [.int p1, .int 32, .int 0]) (rest := []) ⟨hx, hb, hml, hown, hts⟩ (m_put_32 l D ct S ws_101 ph xx mo mw ma mf m0 m1 mu mv u0 u1 iz mb th mn mpt mbg mwr mwk mlf men f1_102 G p1.toInt p1 (0 : Int32) _ hT hph hy1 hR_107 hc (fun _ => (show 0 ≤ (0 : Int32).toInt from by decide))) (cm_V 3 hts kc_X11_put ki_RX11 kl_RX11_234 kv_X11_put kx_X11_put kd_X11_put ⟨Nat.le_of_ble_eq_true rfl, Nat.le_of_ble_eq_true rfl⟩) (ty_preE (ci := 11) (q0 := 1) hP hK hD hS hA hX rfl rfl) rfl rfl hl.1 rfl (lv_room (Nat.le_of_ble_eq_true rfl)) dX11_startsOn_29 ⟨Nat.le_of_ble_eq_true rfl, Nat.le_of_ble_eq_true rfl⟩) (fun u H locs hw_111 hP hD hS => ?_)
  obtain ⟨ws_112, f1_113⟩ := u
  obtain ⟨hT, hp_114⟩ := hw_111
  have hp_114 : rf_d (f1_102 8) f1_102 f1_113 ∧ rf_R G p1.toInt f1_113 ∧ rf_sm f1_102 f1_113 ∧ f1_113 = upd f1_102 (244 + 54 * p1.toInt.toNat + 32) (0 : Int32) := hp_114
  obtain ⟨hd_115, hq_116⟩ := hp_114
  have hD_117 := rf_dt hD_106 hd_115
  have hR_118 := hq_116.1
  have pg_120 := (rf_smof (rf_c6 hR_107 hc) hq_116.2.1 (k := 1) (by decide)).trans pg_109
  obtain ⟨hP, hD⟩ := ty_shPD (w2 := ([(mu, .inl (ct 1, 42, .inr (.inl su))), (rf_MO mo mw ma mf m0 m1 mu mv u0 u1 iz th mb mn mpt mbg mwr mwk mlf men), (rf_RW ct 0 mw 958 f1_113)] ++ ws_112)) hP hD rfl
  refine lv_iinc (v := 9) (lv' := [(3, .int 9), (0, .ref mo), (1, .int p1), (2, .int p2)]) hx hb dX11_startsOn_32 hl (k := 0) rfl (by decide) (by decide) rfl (fun ls hl => ?_)
  refine lv_goto (tgt := 16) hx hb dX11_startsOn_35 (by decide) ?_
  refine lv_iload_n hx hb dX11_startsOn_16 rfl (lv_at hl 0 rfl) ?_
  refine lv_bipush (v := 12) hx hb dX11_startsOn_17 (by decide) ?_
  refine lv_icmp_ge (tgt := 38) hx hb dX11_startsOn_19 (by decide) (fun hc => absurd hc (by decide)) (fun _ => ?_)
  refine lv_aload_n hx hb dX11_startsOn_22 rfl (lv_at hl 1 rfl) ?_
  refine lv_iload_n hx hb dX11_startsOn_23 rfl (lv_at hl 2 rfl) ?_
  refine lv_bipush (v := 24) hx hb dX11_startsOn_24 (by decide) ?_
  refine lv_iload_n hx hb dX11_startsOn_26 rfl (lv_at hl 0 rfl) ?_
  refine lv_iadd hx hb dX11_startsOn_27 ?_
  refine cm_cst (y := 33) (by decide) ?_
  refine lv_iconst (v := 0) hx hb dX11_startsOn_28 (by decide) ?_
  obtain ⟨hP, hD⟩ := ty_ipPD (E1 := [(mu, .inl (ct 1, 42, .inr (.inl su)))]) (E2 := [(rf_MO mo mw ma mf m0 m1 mu mv u0 u1 iz th mb mn mpt mbg mwr mwk mlf men), (rf_RW ct 0 mw 958 f1_113)]) hP hD rfl ty_mva
  refine ty_Kv hP hD hS hA (va_runV (As := [.int p1, .int 33, .int 0]) (rest := []) ⟨hx, hb, hml, hown, hts⟩ (m_put_33 l D ct S ws_112 ph xx mo mw ma mf m0 m1 mu mv u0 u1 iz mb th mn mpt mbg mwr mwk mlf men f1_113 G p1.toInt p1 (0 : Int32) _ hT hph hy1 hR_118 hc (fun _ => (show 0 ≤ (0 : Int32).toInt from by decide))) (cm_V 3 hts kc_X11_put ki_RX11 kl_RX11_234 kv_X11_put kx_X11_put kd_X11_put ⟨Nat.le_of_ble_eq_true rfl, Nat.le_of_ble_eq_true rfl⟩) (ty_preE (ci := 11) (q0 := 1) hP hK hD hS hA hX rfl rfl) rfl rfl hl.1 rfl (lv_room (Nat.le_of_ble_eq_true rfl)) dX11_startsOn_29 ⟨Nat.le_of_ble_eq_true rfl, Nat.le_of_ble_eq_true rfl⟩) (fun u H locs hw_122 hP hD hS => ?_)
  obtain ⟨ws_123, f1_124⟩ := u
  obtain ⟨hT, hp_125⟩ := hw_122
  have hp_125 : rf_d (f1_113 8) f1_113 f1_124 ∧ rf_R G p1.toInt f1_124 ∧ rf_sm f1_113 f1_124 ∧ f1_124 = upd f1_113 (244 + 54 * p1.toInt.toNat + 33) (0 : Int32) := hp_125
  obtain ⟨hd_126, hq_127⟩ := hp_125
  have hD_128 := rf_dt hD_117 hd_126
  have hR_129 := hq_127.1
  have pg_131 := (rf_smof (rf_c6 hR_118 hc) hq_127.2.1 (k := 1) (by decide)).trans pg_120
  obtain ⟨hP, hD⟩ := ty_shPD (w2 := ([(mu, .inl (ct 1, 42, .inr (.inl su))), (rf_MO mo mw ma mf m0 m1 mu mv u0 u1 iz th mb mn mpt mbg mwr mwk mlf men), (rf_RW ct 0 mw 958 f1_124)] ++ ws_123)) hP hD rfl
  refine lv_iinc (v := 10) (lv' := [(3, .int 10), (0, .ref mo), (1, .int p1), (2, .int p2)]) hx hb dX11_startsOn_32 hl (k := 0) rfl (by decide) (by decide) rfl (fun ls hl => ?_)
  refine lv_goto (tgt := 16) hx hb dX11_startsOn_35 (by decide) ?_
  refine lv_iload_n hx hb dX11_startsOn_16 rfl (lv_at hl 0 rfl) ?_
  refine lv_bipush (v := 12) hx hb dX11_startsOn_17 (by decide) ?_
  refine lv_icmp_ge (tgt := 38) hx hb dX11_startsOn_19 (by decide) (fun hc => absurd hc (by decide)) (fun _ => ?_)
  refine lv_aload_n hx hb dX11_startsOn_22 rfl (lv_at hl 1 rfl) ?_
  refine lv_iload_n hx hb dX11_startsOn_23 rfl (lv_at hl 2 rfl) ?_
  refine lv_bipush (v := 24) hx hb dX11_startsOn_24 (by decide) ?_
  refine lv_iload_n hx hb dX11_startsOn_26 rfl (lv_at hl 0 rfl) ?_
  refine lv_iadd hx hb dX11_startsOn_27 ?_
  refine cm_cst (y := 34) (by decide) ?_
  refine lv_iconst (v := 0) hx hb dX11_startsOn_28 (by decide) ?_
  obtain ⟨hP, hD⟩ := ty_ipPD (E1 := [(mu, .inl (ct 1, 42, .inr (.inl su)))]) (E2 := [(rf_MO mo mw ma mf m0 m1 mu mv u0 u1 iz th mb mn mpt mbg mwr mwk mlf men), (rf_RW ct 0 mw 958 f1_124)]) hP hD rfl ty_mva
  refine ty_Kv hP hD hS hA (va_runV (As := [.int p1, .int 34, .int 0]) (rest := []) ⟨hx, hb, hml, hown, hts⟩ (m_put_34 l D ct S ws_123 ph xx mo mw ma mf m0 m1 mu mv u0 u1 iz mb th mn mpt mbg mwr mwk mlf men f1_124 G p1.toInt p1 (0 : Int32) _ hT hph hy1 hR_129 hc (fun _ => (show 0 ≤ (0 : Int32).toInt from by decide))) (cm_V 3 hts kc_X11_put ki_RX11 kl_RX11_234 kv_X11_put kx_X11_put kd_X11_put ⟨Nat.le_of_ble_eq_true rfl, Nat.le_of_ble_eq_true rfl⟩) (ty_preE (ci := 11) (q0 := 1) hP hK hD hS hA hX rfl rfl) rfl rfl hl.1 rfl (lv_room (Nat.le_of_ble_eq_true rfl)) dX11_startsOn_29 ⟨Nat.le_of_ble_eq_true rfl, Nat.le_of_ble_eq_true rfl⟩) (fun u H locs hw_133 hP hD hS => ?_)
  obtain ⟨ws_134, f1_135⟩ := u
  obtain ⟨hT, hp_136⟩ := hw_133
  have hp_136 : rf_d (f1_124 8) f1_124 f1_135 ∧ rf_R G p1.toInt f1_135 ∧ rf_sm f1_124 f1_135 ∧ f1_135 = upd f1_124 (244 + 54 * p1.toInt.toNat + 34) (0 : Int32) := hp_136
  obtain ⟨hd_137, hq_138⟩ := hp_136
  have hD_139 := rf_dt hD_128 hd_137
  have hR_140 := hq_138.1
  have pg_142 := (rf_smof (rf_c6 hR_129 hc) hq_138.2.1 (k := 1) (by decide)).trans pg_131
  obtain ⟨hP, hD⟩ := ty_shPD (w2 := ([(mu, .inl (ct 1, 42, .inr (.inl su))), (rf_MO mo mw ma mf m0 m1 mu mv u0 u1 iz th mb mn mpt mbg mwr mwk mlf men), (rf_RW ct 0 mw 958 f1_135)] ++ ws_134)) hP hD rfl
  refine lv_iinc (v := 11) (lv' := [(3, .int 11), (0, .ref mo), (1, .int p1), (2, .int p2)]) hx hb dX11_startsOn_32 hl (k := 0) rfl (by decide) (by decide) rfl (fun ls hl => ?_)
  refine lv_goto (tgt := 16) hx hb dX11_startsOn_35 (by decide) ?_
  refine lv_iload_n hx hb dX11_startsOn_16 rfl (lv_at hl 0 rfl) ?_
  refine lv_bipush (v := 12) hx hb dX11_startsOn_17 (by decide) ?_
  refine lv_icmp_ge (tgt := 38) hx hb dX11_startsOn_19 (by decide) (fun hc => absurd hc (by decide)) (fun _ => ?_)
  refine lv_aload_n hx hb dX11_startsOn_22 rfl (lv_at hl 1 rfl) ?_
  refine lv_iload_n hx hb dX11_startsOn_23 rfl (lv_at hl 2 rfl) ?_
  refine lv_bipush (v := 24) hx hb dX11_startsOn_24 (by decide) ?_
  refine lv_iload_n hx hb dX11_startsOn_26 rfl (lv_at hl 0 rfl) ?_
  refine lv_iadd hx hb dX11_startsOn_27 ?_
  refine cm_cst (y := 35) (by decide) ?_
  refine lv_iconst (v := 0) hx hb dX11_startsOn_28 (by decide) ?_
  obtain ⟨hP, hD⟩ := ty_ipPD (E1 := [(mu, .inl (ct 1, 42, .inr (.inl su)))]) (E2 := [(rf_MO mo mw ma mf m0 m1 mu mv u0 u1 iz th mb mn mpt mbg mwr mwk mlf men), (rf_RW ct 0 mw 958 f1_135)]) hP hD rfl ty_mva
  refine ty_Kv hP hD hS hA (va_runV (As := [.int p1, .int 35, .int 0]) (rest := []) ⟨hx, hb, hml, hown, hts⟩ (m_put_35 l D ct S ws_134 ph xx mo mw ma mf m0 m1 mu mv u0 u1 iz mb th mn mpt mbg mwr mwk mlf men f1_135 G p1.toInt p1 (0 : Int32) _ hT hph hy1 hR_140 hc (fun _ => (show 0 ≤ (0 : Int32).toInt from by decide))) (cm_V 3 hts kc_X11_put ki_RX11 kl_RX11_234 kv_X11_put kx_X11_put kd_X11_put ⟨Nat.le_of_ble_eq_true rfl, Nat.le_of_ble_eq_true rfl⟩) (ty_preE (ci := 11) (q0 := 1) hP hK hD hS hA hX rfl rfl) rfl rfl hl.1 rfl (lv_room (Nat.le_of_ble_eq_true rfl)) dX11_startsOn_29 ⟨Nat.le_of_ble_eq_true rfl, Nat.le_of_ble_eq_true rfl⟩) (fun u H locs hw_144 hP hD hS => ?_)
  obtain ⟨ws_145, f1_146⟩ := u
  obtain ⟨hT, hp_147⟩ := hw_144
  have hp_147 : rf_d (f1_135 8) f1_135 f1_146 ∧ rf_R G p1.toInt f1_146 ∧ rf_sm f1_135 f1_146 ∧ f1_146 = upd f1_135 (244 + 54 * p1.toInt.toNat + 35) (0 : Int32) := hp_147
  obtain ⟨hd_148, hq_149⟩ := hp_147
  have hD_150 := rf_dt hD_139 hd_148
  have hR_151 := hq_149.1
  have pg_153 := (rf_smof (rf_c6 hR_140 hc) hq_149.2.1 (k := 1) (by decide)).trans pg_142
  obtain ⟨hP, hD⟩ := ty_shPD (w2 := ([(mu, .inl (ct 1, 42, .inr (.inl su))), (rf_MO mo mw ma mf m0 m1 mu mv u0 u1 iz th mb mn mpt mbg mwr mwk mlf men), (rf_RW ct 0 mw 958 f1_146)] ++ ws_145)) hP hD rfl
  refine lv_iinc (v := 12) (lv' := [(3, .int 12), (0, .ref mo), (1, .int p1), (2, .int p2)]) hx hb dX11_startsOn_32 hl (k := 0) rfl (by decide) (by decide) rfl (fun ls hl => ?_)
  refine lv_goto (tgt := 16) hx hb dX11_startsOn_35 (by decide) ?_
  refine lv_iload_n hx hb dX11_startsOn_16 rfl (lv_at hl 0 rfl) ?_
  refine lv_bipush (v := 12) hx hb dX11_startsOn_17 (by decide) ?_
  refine lv_icmp_ge (tgt := 38) hx hb dX11_startsOn_19 (by decide) (fun _ => ?_) (fun hc => absurd (by decide) hc)
  refine lv_aload_n hx hb dX11_startsOn_38 rfl (lv_at hl 1 rfl) ?_
  refine lv_iload_n hx hb dX11_startsOn_39 rfl (lv_at hl 2 rfl) ?_
  obtain ⟨hP, hD⟩ := ty_opPD (E1 := []) (E2 := [(rf_MO mo mw ma mf m0 m1 mu mv u0 u1 iz th mb mn mpt mbg mwr mwk mlf men), (rf_RW ct 0 mw 958 f1_146), (mu, .inl (ct 1, 42, .inr (.inl su)))]) (n := 3) [1, 2, 0] hP hD rfl rfl (by decide +kernel) ty_mva
  refine ty_Kv hP hD hS hA (va_runV (As := [.int p1]) (rest := []) ⟨hx, hb, hml, hown, hts⟩ (m_X11_clears l D ct S ws_145 ph xx mo mw ma mf m0 m1 mu mv u0 u1 iz mb th mn mpt mbg mwr mwk mlf men f1_146 G p1.toInt su p1 _ hT hph hy1 hy11 hR_151 hc) (cm_V 1 hts kc_X11_clears ki_RX11 kl_RX11_272 kv_X11_clears kx_X11_clears kd_X11_clears ⟨Nat.le_of_ble_eq_true rfl, Nat.le_of_ble_eq_true rfl⟩) (ty_preE (ci := 11) (q0 := 0) hP hK hD hS hA hX rfl rfl) rfl rfl hl.1 rfl (lv_room (Nat.le_of_ble_eq_true rfl)) dX11_startsOn_40 ⟨Nat.le_of_ble_eq_true rfl, Nat.le_of_ble_eq_true rfl⟩) (fun u H locs hw_155 hP hD hS => ?_)
  obtain ⟨ws_156, f1_157, su1_158⟩ := u
  obtain ⟨hT, hp_159⟩ := hw_155
  have hp_159 : (q_X11_clears f1_146 su p1 f1_157 su1_158) ∧ rf_d (f1_146 8) f1_146 f1_157 ∧ rf_R G p1.toInt f1_157 ∧ rf_sm f1_146 f1_157 := hp_159
  obtain ⟨hq_160, hp_161⟩ := hp_159
  obtain ⟨hd_162, hq_163⟩ := hp_161
  have hD_164 := rf_dt hD_150 hd_162
  have hR_165 := hq_163.1
  have pg_167 := (rf_smof (rf_c6 hR_151 hc) hq_163.2 (k := 1) (by decide)).trans pg_153
  obtain ⟨hP, hD⟩ := ty_shPD (w2 := ([(rf_MO mo mw ma mf m0 m1 mu mv u0 u1 iz th mb mn mpt mbg mwr mwk mlf men), (rf_RW ct 0 mw 958 f1_157), (mu, .inl (ct 1, 42, .inr (.inl su1_158)))] ++ ws_156)) hP hD rfl
  refine lv_aload_n hx hb dX11_startsOn_43 rfl (lv_at hl 1 rfl) ?_
  refine lv_iload_n hx hb dX11_startsOn_44 rfl (lv_at hl 2 rfl) ?_
  refine lv_iconst (v := 0) hx hb dX11_startsOn_45 (by decide) ?_
  refine lv_iload_n hx hb dX11_startsOn_46 rfl (lv_at hl 3 rfl) ?_
  obtain ⟨hP, hD⟩ := ty_opPD (E1 := [(mu, .inl (ct 1, 42, .inr (.inl su1_158)))]) (E2 := [(rf_MO mo mw ma mf m0 m1 mu mv u0 u1 iz th mb mn mpt mbg mwr mwk mlf men), (rf_RW ct 0 mw 958 f1_157)]) (n := 3) [2, 0, 1] hP hD rfl rfl (by decide +kernel) ty_mva
  refine ty_Kv hP hD hS hA (va_runV (As := [.int p1, .int 0, .int p2]) (rest := []) ⟨hx, hb, hml, hown, hts⟩ (m_X11_notes l D ct S ws_156 ph xx mo mw ma mf m0 m1 mu mv u0 u1 iz mb th mn mpt mbg mwr mwk mlf men f1_157 G p1.toInt p1 (0 : Int32) p2 _ hT hph hy1 hR_165) (cm_V 3 hts kc_X11_notes ki_RX11 kl_RX11_282 kv_X11_notes kx_X11_notes kd_X11_notes ⟨Nat.le_of_ble_eq_true rfl, Nat.le_of_ble_eq_true rfl⟩) (ty_preE (ci := 11) (q0 := 1) hP hK hD hS hA hX rfl rfl) rfl rfl hl.1 rfl (lv_room (Nat.le_of_ble_eq_true rfl)) dX11_startsOn_47 ⟨Nat.le_of_ble_eq_true rfl, Nat.le_of_ble_eq_true rfl⟩) (fun u H locs hw_169 hP hD hS => ?_)
  obtain ⟨ws_170, f1_171⟩ := u
  obtain ⟨hT, hp_172⟩ := hw_169
  have hp_172 : rf_d (f1_157 8) f1_157 f1_171 ∧ rf_R G p1.toInt f1_171 ∧ rf_sm f1_157 f1_171 ∧ q_kp 718 17 f1_157 f1_171 := hp_172
  obtain ⟨hd_173, hq_174⟩ := hp_172
  have hD_175 := rf_dt hD_164 hd_173
  have hR_176 := hq_174.1
  have pg_178 := (rf_smof (rf_c6 hR_165 hc) hq_174.2.1 (k := 1) (by decide)).trans pg_167
  obtain ⟨hP, hD⟩ := ty_shPD (w2 := ([(mu, .inl (ct 1, 42, .inr (.inl su1_158))), (rf_MO mo mw ma mf m0 m1 mu mv u0 u1 iz th mb mn mpt mbg mwr mwk mlf men), (rf_RW ct 0 mw 958 f1_171)] ++ ws_170)) hP hD rfl
  refine lv_aload_n hx hb dX11_startsOn_50 rfl (lv_at hl 1 rfl) ?_
  refine lv_iload_n hx hb dX11_startsOn_51 rfl (lv_at hl 2 rfl) ?_
  refine lv_iconst (v := 0) hx hb dX11_startsOn_52 (by decide) ?_
  obtain ⟨hP, hD⟩ := ty_opPD (E1 := []) (E2 := [(rf_MO mo mw ma mf m0 m1 mu mv u0 u1 iz th mb mn mpt mbg mwr mwk mlf men), (rf_RW ct 0 mw 958 f1_171), (mu, .inl (ct 1, 42, .inr (.inl su1_158)))]) (n := 3) [1, 2, 0] hP hD rfl rfl (by decide +kernel) ty_mva
  refine ty_Kv hP hD hS hA (va_runV (As := [.int p1, .int 0]) (rest := []) ⟨hx, hb, hml, hown, hts⟩ (m_comes_0 l D ct S ws_170 ph xx mo mw ma mf m0 m1 mu mv u0 u1 iz mb th mn mpt mbg mwr mwk mlf men f1_171 G p1.toInt su1_158 p1 _ hT hph hy1 hy11 hR_176 hc (Or.inr rfl) (by rw [pg_178]; exact hpr)) (cm_V 2 hts kc_X11_comes ki_RX11 kl_RX11_291 kv_X11_comes kx_X11_comes kd_X11_comes ⟨Nat.le_of_ble_eq_true rfl, Nat.le_of_ble_eq_true rfl⟩) (ty_preE (ci := 11) (q0 := 0) hP hK hD hS hA hX rfl rfl) rfl rfl hl.1 rfl (lv_room (Nat.le_of_ble_eq_true rfl)) dX11_startsOn_53 ⟨Nat.le_of_ble_eq_true rfl, Nat.le_of_ble_eq_true rfl⟩) (fun u H locs hw_180 hP hD hS => ?_)
  obtain ⟨ws_181, f1_182, su1_183⟩ := u
  obtain ⟨hT, hp_184⟩ := hw_180
  have hp_184 : (q_comes_0 f1_171 su1_158 p1 f1_182 su1_183) ∧ rf_d (f1_171 8) f1_171 f1_182 ∧ rf_R G (-1) f1_182 := hp_184
  obtain ⟨hq_185, hp_186⟩ := hp_184
  obtain ⟨hd_187, hq_188⟩ := hp_186
  have hD_189 := rf_dt hD_175 hd_187
  have hR_190 := hq_188
  obtain ⟨hP, hD⟩ := ty_shPD (w2 := ([(rf_MO mo mw ma mf m0 m1 mu mv u0 u1 iz th mb mn mpt mbg mwr mwk mlf men), (rf_RW ct 0 mw 958 f1_182), (mu, .inl (ct 1, 42, .inr (.inl su1_183)))] ++ ws_181)) hP hD rfl
  exact W.vret hx hb hr (fun t ht hW => ⟨⟨(ws_181, f1_182, su1_183), rfl, ⟨hT, ⟨⟨f1_4, hq_7.2, ⟨f1_14, hq_17.2, ⟨f1_25, hq_28.2.2, ⟨f1_36, hq_39.2.2, ⟨f1_47, hq_50.2.2, ⟨f1_58, hq_61.2.2, ⟨f1_69, hq_72.2.2, ⟨f1_80, hq_83.2.2, ⟨f1_91, hq_94.2.2, ⟨f1_102, hq_105.2.2, ⟨f1_113, hq_116.2.2, ⟨f1_124, hq_127.2.2, ⟨f1_135, hq_138.2.2, ⟨f1_146, hq_149.2.2, ⟨f1_157, su1_158, hq_160, ⟨f1_171, hq_174.2.2, ⟨f1_182, su1_183, hq_185, ⟨rfl, rfl⟩⟩⟩⟩⟩⟩⟩⟩⟩⟩⟩⟩⟩⟩⟩⟩⟩⟩, ⟨hD_189, hR_190⟩⟩⟩, by rw [ht]; exact hP, by rw [hAe]; exact hD⟩, hS.F ht⟩) hS.2.2 dX11_startsOn_56
