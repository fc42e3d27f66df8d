def q_X11_capacityIf (men : Int32) (f : Nat → Int32) (G : Nat → Int32) (fa : Nat → Int32) (su : Nat → Int64) (sv : Nat → Int64) (p1 : Int32) (p2 : Int32) (r : Int32) (men1 : Int32) (th1 : Int32) (f1 : Nat → Int32) (fa1 : Nat → Int32) (su1 : Nat → Int64) (sv1 : Nat → Int64) : Prop := (∃ (th1_4 : Int32), True ∧ (((((0 ≤ p1.toInt ∧ p1.toInt < (G 9).toInt) ∧ 0 ≤ p2.toInt ∧ p2.toInt < (G 10).toInt) ∧ th1_4 = 0) ∧ (∃ (fa1_12 : Nat → Int32) (sv1_13 : Nat → Int64), (q_eq 958 f fa1_12 ∧ q_cs su sv1_13) ∧ (∃ (f1_18 : Nat → Int32), f1_18 = upd f (244 + 54 * p1.toInt.toNat + 39) (0 : Int32) ∧ (∃ (f1_28 : Nat → Int32) (su1_29 : Nat → Int64), (q_X11_startsOn f1_18 su p1 p2 f1_28 su1_29) ∧ (∃ (r_38 : Int32) (men1_41 : Int32) (f1_42 : Nat → Int32) (su1_43 : Nat → Int64), (q_X11_until (0 : Int32) f1_28 G su1_29 p1 (3 : Int32) r_38 men1_41 f1_42 su1_43) ∧ ((¬ r_38 = ((-1) : Int32) ∧ (∃ (f1_56 : Nat → Int32) (su1_57 : Nat → Int64), (q_eq 958 fa1_12 f1_56 ∧ q_cs sv1_13 su1_57) ∧ (r = (rf_of f1_42 p1 20) ∧ men1 = men1_41 ∧ th1 = 0 ∧ f1 = f1_56 ∧ fa1 = fa1_12 ∧ su1 = su1_57 ∧ sv1 = sv1_13))) ∨ (r_38 = ((-1) : Int32) ∧ (∃ (f1_65 : Nat → Int32) (su1_66 : Nat → Int64), (q_eq 958 fa1_12 f1_65 ∧ q_cs sv1_13 su1_66) ∧ (r = (-1) ∧ men1 = men1_41 ∧ th1 = 0 ∧ f1 = f1_65 ∧ fa1 = fa1_12 ∧ su1 = su1_66 ∧ sv1 = sv1_13))))))))) ∨ ((¬ ((0 ≤ p1.toInt ∧ p1.toInt < (G 9).toInt) ∧ 0 ≤ p2.toInt ∧ p2.toInt < (G 10).toInt) ∧ th1_4 = 1) ∧ (r = 0 ∧ men1 = men ∧ th1 = 1 ∧ f1 = f ∧ fa1 = fa ∧ su1 = su ∧ sv1 = sv))))
set_option maxRecDepth 100000 in
set_option maxHeartbeats 4000000 in
theorem m_X11_capacityIf (l : Launch) (D : va_G) (ct : Nat → ClassId) (S : ty_S) (ws : va_W) (ph : va_W → Prop) (xx : Nat → Nat → Nat → Prop) (mo : Nat) (mw : Nat) (ma : Nat) (mf : Nat) (m0 : Nat) (m1 : Nat) (mu : Nat) (mv : Nat) (u0 : Nat) (u1 : Nat) (iz : Nat) (mb : Nat) (th : Int32) (mn : Int32) (mpt : Int32) (mbg : Int32) (mwr : Int32) (mwk : Int32) (mlf : Int32) (men : Int32) (f : Nat → Int32) (G : Nat → Int32) (fa : Nat → Int32) (su : Nat → Int64) (sv : Nat → Int64) (p1 : Int32) (p2 : Int32) (sz : Nat) (hT : ty_V ct S ph ws) (hph : ty_C ph xx) (hy1 : ty_y1 xx) (hy11 : ty_y0 xx 11) (hR : rf_R G (-1) f) : Met l yX11_capacityIf (ws_ yX11_capacityIf cX11_capacityIf 5 (some .int)) ({ frames := 9, cells := 0, slots := 0, locals := 209 } : Room) (va_Pc [.ref mo, .int p1, .int p2] (cmP D ct sz ([(rf_MO mo mw ma mf m0 m1 mu mv u0 u1 iz th mb mn mpt mbg mwr mwk mlf men), (rf_RW ct 0 mw 958 f), (rf_RW ct 0 ma 958 fa), (mu, .inl (ct 1, 42, .inr (.inl su))), (mv, .inl (ct 1, 42, .inr (.inl sv)))] ++ ws))) (va_Qi (fun (r : Int32) (u : va_W × Int32 × Int32 × (Nat → Int32) × (Nat → Int32) × (Nat → Int64) × (Nat → Int64)) => match u with | (u9, men1, th1, f1, fa1, su1, sv1) => ty_V ct S ph u9 ∧ (q_X11_capacityIf men f G fa su sv p1 p2 r men1 th1 f1 fa1 su1 sv1) ∧ rf_d (f 8) f f1 ∧ rf_R G (-1) f1) (cmB D ([(rf_MO mo mw ma mf m0 m1 mu mv u0 u1 iz th mb mn mpt mbg mwr mwk mlf men), (rf_RW ct 0 mw 958 f), (rf_RW ct 0 ma 958 fa), (mu, .inl (ct 1, 42, .inr (.inl su))), (mv, .inl (ct 1, 42, .inr (.inl sv)))] ++ ws) sz (fun (u : va_W × Int32 × Int32 × (Nat → Int32) × (Nat → Int32) × (Nat → Int64) × (Nat → Int64)) => match u with | (u9, men1, th1, f1, fa1, su1, sv1) => ([(rf_MO mo mw ma mf m0 m1 mu mv u0 u1 iz th1 mb mn mpt mbg mwr mwk mlf men1), (rf_RW ct 0 mw 958 f1), (rf_RW ct 0 ma 958 fa1), (mu, .inl (ct 1, 42, .inr (.inl su1))), (mv, .inl (ct 1, 42, .inr (.inl sv1)))] ++ u9))) (va_A ([(rf_MO mo mw ma mf m0 m1 mu mv u0 u1 iz th mb mn mpt mbg mwr mwk mlf men), (rf_RW ct 0 mw 958 f), (rf_RW ct 0 ma 958 fa), (mu, .inl (ct 1, 42, .inr (.inl su))), (mv, .inl (ct 1, 42, .inr (.inl sv)))] ++ ws) sz)) 0 0 (va_A ([(rf_MO mo mw ma mf m0 m1 mu mv u0 u1 iz th mb mn mpt mbg mwr mwk mlf men), (rf_RW ct 0 mw 958 f), (rf_RW ct 0 ma 958 fa), (mu, .inl (ct 1, 42, .inr (.inl su))), (mv, .inl (ct 1, 42, .inr (.inl sv)))] ++ ws) sz) := by
  refine Met.ofW (cc := cX11_capacityIf) (maxL := 5) (ret := (some .int)) (by decide) rfl ?_
  intro p e s m args below meth c s₁ B hml hv
  obtain ⟨rfl, hsz, hP, hK, hD0, hX⟩ := hv
  have hx := B.exec
  have hb := B.bytes
  have hr := B.returns
  have hts := ws_all (atoms_spec (ws := ws_ yX11_capacityIf cX11_capacityIf 5 (some .int)) B.pre)
  have hown : s.vm.findClass RX11 = some m.cls := findClass_of_methodNamed B.named
  have hlocks := B.notSynchronized
  subst hsz
  have hD := hD0.self (sz := s.heap.size)
  generalize hAe : va_A ([(rf_MO mo mw ma mf m0 m1 mu mv u0 u1 iz th mb mn mpt mbg mwr mwk mlf men), (rf_RW ct 0 mw 958 f), (rf_RW ct 0 ma 958 fa), (mu, .inl (ct 1, 42, .inr (.inl su))), (mv, .inl (ct 1, 42, .inr (.inl sv)))] ++ ws) s.heap.size = A at hD hX ⊢
  have hA : ∀ q : Nat, s.heap.size ≤ q → A q := fun q h => by rw [← hAe]; exact Or.inr h
  have hS : va_S A s.heap s.heap [] := va_S.rf
  have hl := lv_entry ([.ref mo, .int p1, .int p2]) (n := 5) (Nat.le_of_ble_eq_true rfl)
  rw [lg_entry_eq]
  generalize (lg_sl ([.ref mo, .int p1, .int p2]) ++ List.replicate (5 - (lg_sl ([.ref mo, .int p1, .int p2])).length) Slot.unset).toArray = ls at hl ⊢
  have hl : lv_has ls 5 [(0, .ref mo), (1, .int p1), (2, .int p2)] := hl
  refine lv_aload_n hx hb dX11_capacityIf_0 rfl (lv_at hl 0 rfl) ?_
  refine lv_iload_n hx hb dX11_capacityIf_1 rfl (lv_at hl 1 rfl) ?_
  refine lv_iload_n hx hb dX11_capacityIf_2 rfl (lv_at hl 2 rfl) ?_
  obtain ⟨hP, hD⟩ := ty_opPD (E1 := [(rf_RW ct 0 ma 958 fa), (mu, .inl (ct 1, 42, .inr (.inl su))), (mv, .inl (ct 1, 42, .inr (.inl sv)))]) (E2 := [(rf_MO mo mw ma mf m0 m1 mu mv u0 u1 iz th mb mn mpt mbg mwr mwk mlf men), (rf_RW ct 0 mw 958 f)]) (n := 5) [2, 3, 4, 0, 1] hP hD rfl rfl (by decide +kernel) ty_mva
  refine ty_Ki hP hD hS hA (va_runV (As := [.int p1, .int p2]) (rest := []) ⟨hx, hb, hml, hown, hts⟩ (m_X11_noProgram l D ct S ws ph xx mo mw ma mf m0 m1 mu mv u0 u1 iz mb th mn mpt mbg mwr mwk mlf men f G (-1) p1 p2 _ hT hph hy1 hR) (cm_V 2 hts kc_X11_noProgram ki_RX11 kl_RX11_347 kv_X11_noProgram kx_X11_noProgram kd_X11_noProgram ⟨Nat.le_of_ble_eq_true rfl, Nat.le_of_ble_eq_true rfl⟩) (ty_preE (ci := 11) (q0 := 3) hP hK hD hS hA hX rfl rfl) rfl rfl hl.1 rfl (lv_room (Nat.le_of_ble_eq_true rfl)) dX11_capacityIf_3 ⟨Nat.le_of_ble_eq_true rfl, Nat.le_of_ble_eq_true rfl⟩) (fun r_1 u H locs hw_2 hP hD hS => ?_)
  obtain ⟨ws_3, th1_4⟩ := u
  obtain ⟨hT, hp_5⟩ := hw_2
  have hp_5 : ((r_1 = 0 ∧ ((0 ≤ p1.toInt ∧ p1.toInt < (G 9).toInt) ∧ 0 ≤ p2.toInt ∧ p2.toInt < (G 10).toInt) ∧ th1_4 = 0) ∨ (r_1 = 1 ∧ ¬ ((0 ≤ p1.toInt ∧ p1.toInt < (G 9).toInt) ∧ 0 ≤ p2.toInt ∧ p2.toInt < (G 10).toInt) ∧ th1_4 = 1)) := hp_5
  obtain ⟨hP, hD⟩ := ty_shPD (w2 := ([(rf_RW ct 0 ma 958 fa), (mu, .inl (ct 1, 42, .inr (.inl su))), (mv, .inl (ct 1, 42, .inr (.inl sv))), (rf_MO mo mw ma mf m0 m1 mu mv u0 u1 iz th1_4 mb mn mpt mbg mwr mwk mlf men), (rf_RW ct 0 mw 958 f)] ++ ws_3)) hP hD rfl
  rcases hp_5 with ⟨rfl, hz_6⟩ | ⟨rfl, hz_7⟩
  · have he_8 := hz_6.2
    have hP : va_P D vwCl ([(rf_RW ct 0 ma 958 fa), (mu, .inl (ct 1, 42, .inr (.inl su))), (mv, .inl (ct 1, 42, .inr (.inl sv))), (rf_MO mo mw ma mf m0 m1 mu mv u0 u1 iz (0) mb mn mpt mbg mwr mwk mlf men), (rf_RW ct 0 mw 958 f)] ++ ws_3) H := by rw [he_8] at hP; exact hP
    have hD : va_D A ([(rf_RW ct 0 ma 958 fa), (mu, .inl (ct 1, 42, .inr (.inl su))), (mv, .inl (ct 1, 42, .inr (.inl sv))), (rf_MO mo mw ma mf m0 m1 mu mv u0 u1 iz (0) mb mn mpt mbg mwr mwk mlf men), (rf_RW ct 0 mw 958 f)] ++ ws_3) := by rw [he_8] at hD; exact hD
    refine lv_if_eq (tgt := 11) hx hb dX11_capacityIf_6 (by decide) (fun _ => ?_) (fun hc => absurd (by decide) hc)
    refine lv_aload_n hx hb dX11_capacityIf_11 rfl (lv_at hl 0 rfl) ?_
    obtain ⟨hP, hD⟩ := ty_opPD (E1 := []) (E2 := [(rf_MO mo mw ma mf m0 m1 mu mv u0 u1 iz (0) mb mn mpt mbg mwr mwk mlf men), (rf_RW ct 0 mw 958 f), (rf_RW ct 0 ma 958 fa), (mu, .inl (ct 1, 42, .inr (.inl su))), (mv, .inl (ct 1, 42, .inr (.inl sv)))]) (n := 5) [3, 4, 0, 1, 2] hP hD rfl rfl (by decide +kernel) ty_mva
    refine ty_Kv hP hD hS hA (va_runV (As := []) (rest := []) ⟨hx, hb, hml, hown, hts⟩ (m_X11_goesAside l D ct S ws_3 ph xx mo mw ma mf m0 m1 mu mv u0 u1 iz mb (0 : Int32) mn mpt mbg mwr mwk mlf men f G fa su sv _ hT hph hy1 hy11 hR) (cm_V 0 hts kc_X11_goesAside ki_RX11 kl_RX11_379 kv_X11_goesAside kx_X11_goesAside kd_X11_goesAside ⟨Nat.le_of_ble_eq_true rfl, Nat.le_of_ble_eq_true rfl⟩) (ty_preE (ci := 11) (q0 := 0) hP hK hD hS hA hX rfl rfl) rfl rfl hl.1 rfl (lv_room (Nat.le_of_ble_eq_true rfl)) dX11_capacityIf_12 ⟨Nat.le_of_ble_eq_true rfl, Nat.le_of_ble_eq_true rfl⟩) (fun u H locs hw_10 hP hD hS => ?_)
    obtain ⟨ws_11, fa1_12, sv1_13⟩ := u
    obtain ⟨hT, hp_14⟩ := hw_10
    have hp_14 : (rf_R G (-1) fa1_12 ∧ rf_d (f 8) f fa1_12) ∧ q_eq 958 f fa1_12 ∧ q_cs su sv1_13 := hp_14
    obtain ⟨hP, hD⟩ := ty_shPD (w2 := ([(rf_MO mo mw ma mf m0 m1 mu mv u0 u1 iz (0) mb mn mpt mbg mwr mwk mlf (0)), (rf_RW ct 0 mw 958 f), (rf_RW ct 0 ma 958 fa1_12), (mu, .inl (ct 1, 42, .inr (.inl su))), (mv, .inl (ct 1, 42, .inr (.inl sv1_13)))] ++ ws_11)) hP hD rfl
    refine lv_aload_n hx hb dX11_capacityIf_15 rfl (lv_at hl 0 rfl) ?_
    refine lv_iload_n hx hb dX11_capacityIf_16 rfl (lv_at hl 1 rfl) ?_
    refine lv_bipush (v := 39) hx hb dX11_capacityIf_17 (by decide) ?_
    refine lv_iconst (v := 0) hx hb dX11_capacityIf_19 (by decide) ?_
    obtain ⟨hP, hD⟩ := ty_opPD (E1 := [(rf_RW ct 0 ma 958 fa1_12), (mu, .inl (ct 1, 42, .inr (.inl su))), (mv, .inl (ct 1, 42, .inr (.inl sv1_13)))]) (E2 := [(rf_MO mo mw ma mf m0 m1 mu mv u0 u1 iz (0) mb mn mpt mbg mwr mwk mlf (0)), (rf_RW ct 0 mw 958 f)]) (n := 5) [2, 3, 4, 0, 1] hP hD rfl rfl (by decide +kernel) ty_mva
    refine ty_Kv hP hD hS hA (va_runV (As := [.int p1, .int 39, .int 0]) (rest := []) ⟨hx, hb, hml, hown, hts⟩ (m_put_39 l D ct S ws_11 ph xx mo mw ma mf m0 m1 mu mv u0 u1 iz mb (0 : Int32) mn mpt mbg mwr mwk mlf (0 : Int32) f G (-1) p1 (0 : Int32) _ hT hph hy1 hR hz_6.1.1 (rf_z39)) (cm_V 3 hts kc_X11_put ki_RX11 kl_RX11_234 kv_X11_put kx_X11_put kd_X11_put ⟨Nat.le_of_ble_eq_true rfl, Nat.le_of_ble_eq_true rfl⟩) (ty_preE (ci := 11) (q0 := 3) hP hK hD hS hA hX rfl rfl) rfl rfl hl.1 rfl (lv_room (Nat.le_of_ble_eq_true rfl)) dX11_capacityIf_20 ⟨Nat.le_of_ble_eq_true rfl, Nat.le_of_ble_eq_true rfl⟩) (fun u H locs hw_16 hP hD hS => ?_)
    obtain ⟨ws_17, f1_18⟩ := u
    obtain ⟨hT, hp_19⟩ := hw_16
    have hp_19 : rf_d (f 8) f f1_18 ∧ rf_R G (-1) f1_18 ∧ rf_sm f f1_18 ∧ f1_18 = upd f (244 + 54 * p1.toInt.toNat + 39) (0 : Int32) := hp_19
    obtain ⟨hd_20, hq_21⟩ := hp_19
    have hD_22 := rf_dt (rf_dr f) hd_20
    have hR_23 := hq_21.1
    have hM_24 := rf_smt (rf_smr f) hq_21.2.1
    obtain ⟨hP, hD⟩ := ty_shPD (w2 := ([(rf_RW ct 0 ma 958 fa1_12), (mu, .inl (ct 1, 42, .inr (.inl su))), (mv, .inl (ct 1, 42, .inr (.inl sv1_13))), (rf_MO mo mw ma mf m0 m1 mu mv u0 u1 iz (0) mb mn mpt mbg mwr mwk mlf (0)), (rf_RW ct 0 mw 958 f1_18)] ++ ws_17)) hP hD rfl
    refine lv_aload_n hx hb dX11_capacityIf_23 rfl (lv_at hl 0 rfl) ?_
    refine lv_iload_n hx hb dX11_capacityIf_24 rfl (lv_at hl 1 rfl) ?_
    refine lv_iload_n hx hb dX11_capacityIf_25 rfl (lv_at hl 2 rfl) ?_
    obtain ⟨hP, hD⟩ := ty_opPD (E1 := [(rf_RW ct 0 ma 958 fa1_12), (mv, .inl (ct 1, 42, .inr (.inl sv1_13)))]) (E2 := [(rf_MO mo mw ma mf m0 m1 mu mv u0 u1 iz (0) mb mn mpt mbg mwr mwk mlf (0)), (rf_RW ct 0 mw 958 f1_18), (mu, .inl (ct 1, 42, .inr (.inl su)))]) (n := 5) [0, 2, 3, 4, 1] hP hD rfl rfl (by decide +kernel) ty_mva
    refine ty_Kv hP hD hS hA (va_runV (As := [.int p1, .int p2]) (rest := []) ⟨hx, hb, hml, hown, hts⟩ (m_X11_startsOn l D ct S ws_17 ph xx mo mw ma mf m0 m1 mu mv u0 u1 iz mb (0 : Int32) mn mpt mbg mwr mwk mlf (0 : Int32) f1_18 G (-1) su p1 p2 _ hT hph hy1 hy11 hR_23 hz_6.1.1 (Or.inl rfl) hz_6.1.2) (cm_V 2 hts kc_X11_startsOn ki_RX11 kl_RX11_288 kv_X11_startsOn kx_X11_startsOn kd_X11_startsOn ⟨Nat.le_of_ble_eq_true rfl, Nat.le_of_ble_eq_true rfl⟩) (ty_preE (ci := 11) (q0 := 2) hP hK hD hS hA hX rfl rfl) rfl rfl hl.1 rfl (lv_room (Nat.le_of_ble_eq_true rfl)) dX11_capacityIf_26 ⟨Nat.le_of_ble_eq_true rfl, Nat.le_of_ble_eq_true rfl⟩) (fun u H locs hw_26 hP hD hS => ?_)
    obtain ⟨ws_27, f1_28, su1_29⟩ := u
    obtain ⟨hT, hp_30⟩ := hw_26
    have hp_30 : (q_X11_startsOn f1_18 su p1 p2 f1_28 su1_29) ∧ rf_d (f1_18 8) f1_18 f1_28 ∧ rf_R G (-1) f1_28 := hp_30
    obtain ⟨hq_31, hp_32⟩ := hp_30
    obtain ⟨hd_33, hq_34⟩ := hp_32
    have hD_35 := rf_dt hD_22 hd_33
    have hR_36 := hq_34
    obtain ⟨hP, hD⟩ := ty_shPD (w2 := ([(rf_RW ct 0 ma 958 fa1_12), (mv, .inl (ct 1, 42, .inr (.inl sv1_13))), (rf_MO mo mw ma mf m0 m1 mu mv u0 u1 iz (0) mb mn mpt mbg mwr mwk mlf (0)), (rf_RW ct 0 mw 958 f1_28), (mu, .inl (ct 1, 42, .inr (.inl su1_29)))] ++ ws_27)) hP hD rfl
    refine lv_aload_n hx hb dX11_capacityIf_29 rfl (lv_at hl 0 rfl) ?_
    refine lv_iload_n hx hb dX11_capacityIf_30 rfl (lv_at hl 1 rfl) ?_
    refine lv_iconst (v := 3) hx hb dX11_capacityIf_31 (by decide) ?_
    obtain ⟨hP, hD⟩ := ty_ipPD (E1 := [(rf_RW ct 0 ma 958 fa1_12), (mv, .inl (ct 1, 42, .inr (.inl sv1_13)))]) (E2 := [(rf_MO mo mw ma mf m0 m1 mu mv u0 u1 iz (0) mb mn mpt mbg mwr mwk mlf (0)), (rf_RW ct 0 mw 958 f1_28), (mu, .inl (ct 1, 42, .inr (.inl su1_29)))]) hP hD rfl ty_mva
    refine ty_Ki hP hD hS hA (va_runV (As := [.int p1, .int 3]) (rest := []) ⟨hx, hb, hml, hown, hts⟩ (m_X11_until l D ct S ws_27 ph xx mo mw ma mf m0 m1 mu mv u0 u1 iz mb (0 : Int32) mn mpt mbg mwr mwk mlf (0 : Int32) f1_28 G su1_29 p1 (3 : Int32) _ hT hph hy1 hy11 hR_36 hz_6.1.1) (cm_V 2 hts kc_X11_until ki_RX11 kl_RX11_388 kv_X11_until kx_X11_until kd_X11_until ⟨Nat.le_of_ble_eq_true rfl, Nat.le_of_ble_eq_true rfl⟩) (ty_preE (ci := 11) (q0 := 2) hP hK hD hS hA hX rfl rfl) rfl rfl hl.1 rfl (lv_room (Nat.le_of_ble_eq_true rfl)) dX11_capacityIf_32 ⟨Nat.le_of_ble_eq_true rfl, Nat.le_of_ble_eq_true rfl⟩) (fun r_38 u H locs hw_39 hP hD hS => ?_)
    obtain ⟨ws_40, men1_41, f1_42, su1_43⟩ := u
    obtain ⟨hT, hp_44⟩ := hw_39
    have hp_44 : (q_X11_until (0 : Int32) f1_28 G su1_29 p1 (3 : Int32) r_38 men1_41 f1_42 su1_43) ∧ rf_R G (-1) f1_42 := hp_44
    obtain ⟨hq_45, hp_46⟩ := hp_44
    have hR_47 := hp_46
    obtain ⟨hP, hD⟩ := ty_shPD (w2 := ([(rf_RW ct 0 ma 958 fa1_12), (mv, .inl (ct 1, 42, .inr (.inl sv1_13))), (rf_MO mo mw ma mf m0 m1 mu mv u0 u1 iz (0) mb mn mpt mbg mwr mwk mlf men1_41), (rf_RW ct 0 mw 958 f1_42), (mu, .inl (ct 1, 42, .inr (.inl su1_43)))] ++ ws_40)) hP hD rfl
    refine lv_istore_n (lv' := [(3, .int r_38), (0, .ref mo), (1, .int p1), (2, .int p2)]) hx hb dX11_capacityIf_35 rfl hl (by decide) rfl (fun ls hl => ?_)
    refine lv_iload_n hx hb dX11_capacityIf_36 rfl (lv_at hl 0 rfl) ?_
    refine lv_iconst (v := (-1)) hx hb dX11_capacityIf_37 (by decide) ?_
    refine lv_icmp_ne (tgt := 45) hx hb dX11_capacityIf_38 (by decide) (fun hc_49 => ?_) (fun hc_49 => ?_)
    · refine lv_aload_n hx hb dX11_capacityIf_45 rfl (lv_at hl 1 rfl) ?_
      refine lv_iload_n hx hb dX11_capacityIf_46 rfl (lv_at hl 2 rfl) ?_
      refine lv_bipush (v := 20) hx hb dX11_capacityIf_47 (by decide) ?_
      obtain ⟨hP, hD⟩ := ty_opPD (E1 := [(rf_RW ct 0 ma 958 fa1_12), (mv, .inl (ct 1, 42, .inr (.inl sv1_13))), (mu, .inl (ct 1, 42, .inr (.inl su1_43)))]) (E2 := [(rf_MO mo mw ma mf m0 m1 mu mv u0 u1 iz (0) mb mn mpt mbg mwr mwk mlf men1_41), (rf_RW ct 0 mw 958 f1_42)]) (n := 5) [0, 1, 4, 2, 3] hP hD rfl rfl (by decide +kernel) ty_mva
      refine ty_Ki hP hD hS hA (va_runV (As := [.int p1, .int 20]) (rest := []) ⟨hx, hb, hml, hown, hts⟩ (m_of_20 l D ct S ws_40 ph xx mo mw ma mf m0 m1 mu mv u0 u1 iz mb (0 : Int32) mn mpt mbg mwr mwk mlf men1_41 f1_42 G (-1) p1 _ hT hph hy1 hR_47 hz_6.1.1) (cm_V 2 hts kc_X11_of ki_RX11 kl_RX11_209 kv_X11_of kx_X11_of kd_X11_of ⟨Nat.le_of_ble_eq_true rfl, Nat.le_of_ble_eq_true rfl⟩) (ty_preE (ci := 11) (q0 := 3) hP hK hD hS hA hX rfl rfl) rfl rfl hl.1 rfl (lv_room (Nat.le_of_ble_eq_true rfl)) dX11_capacityIf_49 ⟨Nat.le_of_ble_eq_true rfl, Nat.le_of_ble_eq_true rfl⟩) (fun r_50 u H locs hw_51 hP hD hS => ?_)
      obtain ⟨ws_52, rfl⟩ : ∃ z, z = u := ⟨_, rfl⟩
      obtain ⟨hT, rfl⟩ := hw_51
      obtain ⟨hP, hD⟩ := ty_shPD (w2 := ([(rf_RW ct 0 ma 958 fa1_12), (mv, .inl (ct 1, 42, .inr (.inl sv1_13))), (mu, .inl (ct 1, 42, .inr (.inl su1_43))), (rf_MO mo mw ma mf m0 m1 mu mv u0 u1 iz (0) mb mn mpt mbg mwr mwk mlf men1_41), (rf_RW ct 0 mw 958 f1_42)] ++ ws_52)) hP hD rfl
      refine lv_istore (lv' := [(4, .int (rf_of f1_42 p1 20)), (3, .int r_38), (0, .ref mo), (1, .int p1), (2, .int p2)]) hx hb dX11_capacityIf_52 hl (by decide) rfl (fun ls hl => ?_)
      refine lv_aload_n hx hb dX11_capacityIf_54 rfl (lv_at hl 2 rfl) ?_
      obtain ⟨hP, hD⟩ := ty_opPD (E1 := []) (E2 := [(rf_MO mo mw ma mf m0 m1 mu mv u0 u1 iz (0) mb mn mpt mbg mwr mwk mlf men1_41), (rf_RW ct 0 mw 958 f1_42), (rf_RW ct 0 ma 958 fa1_12), (mu, .inl (ct 1, 42, .inr (.inl su1_43))), (mv, .inl (ct 1, 42, .inr (.inl sv1_13)))]) (n := 5) [3, 4, 0, 2, 1] hP hD rfl rfl (by decide +kernel) ty_mva
      refine ty_Kv hP hD hS hA (va_runV (As := []) (rest := []) ⟨hx, hb, hml, hown, hts⟩ (m_X11_comesBack l D ct S ws_52 ph xx mo mw ma mf m0 m1 mu mv u0 u1 iz mb (0 : Int32) mn mpt mbg mwr mwk mlf men1_41 f1_42 G fa1_12 su1_43 sv1_13 _ hT hph hy1 hy11 hp_14.1.1) (cm_V 0 hts kc_X11_comesBack ki_RX11 kl_RX11_385 kv_X11_comesBack kx_X11_comesBack kd_X11_comesBack ⟨Nat.le_of_ble_eq_true rfl, Nat.le_of_ble_eq_true rfl⟩) (ty_preE (ci := 11) (q0 := 0) hP hK hD hS hA hX rfl rfl) rfl rfl hl.1 rfl (lv_room (Nat.le_of_ble_eq_true rfl)) dX11_capacityIf_55 ⟨Nat.le_of_ble_eq_true rfl, Nat.le_of_ble_eq_true rfl⟩) (fun u H locs hw_54 hP hD hS => ?_)
      obtain ⟨ws_55, f1_56, su1_57⟩ := u
      obtain ⟨hT, hp_58⟩ := hw_54
      have hp_58 : rf_R G (-1) f1_56 ∧ (rf_d (fa1_12 8) fa1_12 f1_56 ∧ q_eq 958 fa1_12 f1_56 ∧ q_cs sv1_13 su1_57) := hp_58
      have hR_59 := hp_58.1
      obtain ⟨hP, hD⟩ := ty_shPD (w2 := ([(rf_MO mo mw ma mf m0 m1 mu mv u0 u1 iz (0) mb mn mpt mbg mwr mwk mlf men1_41), (rf_RW ct 0 mw 958 f1_56), (rf_RW ct 0 ma 958 fa1_12), (mu, .inl (ct 1, 42, .inr (.inl su1_57))), (mv, .inl (ct 1, 42, .inr (.inl sv1_13)))] ++ ws_55)) hP hD rfl
      have hD_61 := rf_dg (rf_dr f) hp_14.1.2 hp_58.2.1
      refine lv_iload hx hb dX11_capacityIf_58 (lv_at hl 0 rfl) ?_
      exact W.iret (v := (rf_of f1_42 p1 20)) hx hb hr (fun t ht hW => ⟨⟨(rf_of f1_42 p1 20), (ws_55, men1_41, (0 : Int32), f1_56, fa1_12, su1_57, sv1_13), rfl, ⟨hT, ⟨⟨th1_4, trivial, (Or.inl ⟨hz_6, ⟨fa1_12, sv1_13, hp_14.2, ⟨f1_18, hq_21.2.2, ⟨f1_28, su1_29, hq_31, ⟨r_38, men1_41, f1_42, su1_43, hq_45, (Or.inl ⟨hc_49, ⟨f1_56, su1_57, hp_58.2.2, ⟨rfl, rfl, rfl, rfl, rfl, rfl, rfl⟩⟩⟩)⟩⟩⟩⟩⟩)⟩, ⟨hD_61, hR_59⟩⟩⟩, by rw [ht]; exact hP, by rw [hAe]; exact hD⟩, hS.F ht⟩) hS.2.2 dX11_capacityIf_60
    · refine lv_iconst (v := (-1)) hx hb dX11_capacityIf_41 (by decide) ?_
      refine lv_goto (tgt := 52) hx hb dX11_capacityIf_42 (by decide) ?_
      refine lv_istore (lv' := [(4, .int (-1)), (3, .int r_38), (0, .ref mo), (1, .int p1), (2, .int p2)]) hx hb dX11_capacityIf_52 hl (by decide) rfl (fun ls hl => ?_)
      refine lv_aload_n hx hb dX11_capacityIf_54 rfl (lv_at hl 2 rfl) ?_
      obtain ⟨hP, hD⟩ := ty_opPD (E1 := []) (E2 := [(rf_MO mo mw ma mf m0 m1 mu mv u0 u1 iz (0) mb mn mpt mbg mwr mwk mlf men1_41), (rf_RW ct 0 mw 958 f1_42), (rf_RW ct 0 ma 958 fa1_12), (mu, .inl (ct 1, 42, .inr (.inl su1_43))), (mv, .inl (ct 1, 42, .inr (.inl sv1_13)))]) (n := 5) [2, 3, 0, 4, 1] hP hD rfl rfl (by decide +kernel) ty_mva
      refine ty_Kv hP hD hS hA (va_runV (As := []) (rest := []) ⟨hx, hb, hml, hown, hts⟩ (m_X11_comesBack l D ct S ws_40 ph xx mo mw ma mf m0 m1 mu mv u0 u1 iz mb (0 : Int32) mn mpt mbg mwr mwk mlf men1_41 f1_42 G fa1_12 su1_43 sv1_13 _ hT hph hy1 hy11 hp_14.1.1) (cm_V 0 hts kc_X11_comesBack ki_RX11 kl_RX11_385 kv_X11_comesBack kx_X11_comesBack kd_X11_comesBack ⟨Nat.le_of_ble_eq_true rfl, Nat.le_of_ble_eq_true rfl⟩) (ty_preE (ci := 11) (q0 := 0) hP hK hD hS hA hX rfl rfl) rfl rfl hl.1 rfl (lv_room (Nat.le_of_ble_eq_true rfl)) dX11_capacityIf_55 ⟨Nat.le_of_ble_eq_true rfl, Nat.le_of_ble_eq_true rfl⟩) (fun u H locs hw_63 hP hD hS => ?_)
      obtain ⟨ws_64, f1_65, su1_66⟩ := u
      obtain ⟨hT, hp_67⟩ := hw_63
      have hp_67 : rf_R G (-1) f1_65 ∧ (rf_d (fa1_12 8) fa1_12 f1_65 ∧ q_eq 958 fa1_12 f1_65 ∧ q_cs sv1_13 su1_66) := hp_67
      have hR_68 := hp_67.1
      obtain ⟨hP, hD⟩ := ty_shPD (w2 := ([(rf_MO mo mw ma mf m0 m1 mu mv u0 u1 iz (0) mb mn mpt mbg mwr mwk mlf men1_41), (rf_RW ct 0 mw 958 f1_65), (rf_RW ct 0 ma 958 fa1_12), (mu, .inl (ct 1, 42, .inr (.inl su1_66))), (mv, .inl (ct 1, 42, .inr (.inl sv1_13)))] ++ ws_64)) hP hD rfl
      have hD_70 := rf_dg (rf_dr f) hp_14.1.2 hp_67.2.1
      refine lv_iload hx hb dX11_capacityIf_58 (lv_at hl 0 rfl) ?_
      exact W.iret (v := (-1)) hx hb hr (fun t ht hW => ⟨⟨(-1), (ws_64, men1_41, (0 : Int32), f1_65, fa1_12, su1_66, sv1_13), rfl, ⟨hT, ⟨⟨th1_4, trivial, (Or.inl ⟨hz_6, ⟨fa1_12, sv1_13, hp_14.2, ⟨f1_18, hq_21.2.2, ⟨f1_28, su1_29, hq_31, ⟨r_38, men1_41, f1_42, su1_43, hq_45, (Or.inr ⟨hc_49, ⟨f1_65, su1_66, hp_67.2.2, ⟨rfl, rfl, rfl, rfl, rfl, rfl, rfl⟩⟩⟩)⟩⟩⟩⟩⟩)⟩, ⟨hD_70, hR_68⟩⟩⟩, by rw [ht]; exact hP, by rw [hAe]; exact hD⟩, hS.F ht⟩) hS.2.2 dX11_capacityIf_60
  · have he_71 := hz_7.2
    have hP : va_P D vwCl ([(rf_RW ct 0 ma 958 fa), (mu, .inl (ct 1, 42, .inr (.inl su))), (mv, .inl (ct 1, 42, .inr (.inl sv))), (rf_MO mo mw ma mf m0 m1 mu mv u0 u1 iz (1) mb mn mpt mbg mwr mwk mlf men), (rf_RW ct 0 mw 958 f)] ++ ws_3) H := by rw [he_71] at hP; exact hP
    have hD : va_D A ([(rf_RW ct 0 ma 958 fa), (mu, .inl (ct 1, 42, .inr (.inl su))), (mv, .inl (ct 1, 42, .inr (.inl sv))), (rf_MO mo mw ma mf m0 m1 mu mv u0 u1 iz (1) mb mn mpt mbg mwr mwk mlf men), (rf_RW ct 0 mw 958 f)] ++ ws_3) := by rw [he_71] at hD; exact hD
    refine lv_if_eq (tgt := 11) hx hb dX11_capacityIf_6 (by decide) (fun hc => absurd hc (by decide)) (fun _ => ?_)
    refine lv_iconst (v := 0) hx hb dX11_capacityIf_9 (by decide) ?_
    obtain ⟨hP, hD⟩ := ty_ordPD (E2 := [(rf_MO mo mw ma mf m0 m1 mu mv u0 u1 iz (1) mb mn mpt mbg mwr mwk mlf men), (rf_RW ct 0 mw 958 f), (rf_RW ct 0 ma 958 fa), (mu, .inl (ct 1, 42, .inr (.inl su))), (mv, .inl (ct 1, 42, .inr (.inl sv)))]) (n := 5) [3, 4, 0, 1, 2] hP hD rfl rfl (by decide +kernel)
    exact W.iret (v := 0) hx hb hr (fun t ht hW => ⟨⟨0, (ws_3, men, (1 : Int32), f, fa, su, sv), rfl, ⟨hT, ⟨⟨th1_4, trivial, (Or.inr ⟨hz_7, ⟨rfl, rfl, rfl, rfl, rfl, rfl, rfl⟩⟩)⟩, ⟨(rf_dr f), hR⟩⟩⟩, by rw [ht]; exact hP, by rw [hAe]; exact hD⟩, hS.F ht⟩) hS.2.2 dX11_capacityIf_10
