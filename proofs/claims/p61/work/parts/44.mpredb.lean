theorem dX11_capacityIf_0 : decode cX11_capacityIf 0 = .ok (.aload_n 0, 1) := by decide +kernel
theorem dX11_capacityIf_1 : decode cX11_capacityIf 1 = .ok (.iload_n 1, 1) := by decide +kernel
theorem dX11_capacityIf_2 : decode cX11_capacityIf 2 = .ok (.iload_n 2, 1) := by decide +kernel
theorem dX11_capacityIf_3 : decode cX11_capacityIf 3 = .ok (.invokevirtual 347, 3) := by decide +kernel
theorem dX11_capacityIf_6 : decode cX11_capacityIf 6 = .ok (.ifCond .eq 5, 3) := by decide +kernel
theorem dX11_capacityIf_9 : decode cX11_capacityIf 9 = .ok (.iconst 0, 1) := by decide +kernel
theorem dX11_capacityIf_10 : decode cX11_capacityIf 10 = .ok (.ireturn, 1) := by decide +kernel
theorem dX11_capacityIf_11 : decode cX11_capacityIf 11 = .ok (.aload_n 0, 1) := by decide +kernel
theorem dX11_capacityIf_12 : decode cX11_capacityIf 12 = .ok (.invokevirtual 379, 3) := by decide +kernel
theorem dX11_capacityIf_15 : decode cX11_capacityIf 15 = .ok (.aload_n 0, 1) := by decide +kernel
theorem dX11_capacityIf_16 : decode cX11_capacityIf 16 = .ok (.iload_n 1, 1) := by decide +kernel
theorem dX11_capacityIf_17 : decode cX11_capacityIf 17 = .ok (.bipush 39, 2) := by decide +kernel
theorem dX11_capacityIf_19 : decode cX11_capacityIf 19 = .ok (.iconst 0, 1) := by decide +kernel
theorem dX11_capacityIf_20 : decode cX11_capacityIf 20 = .ok (.invokevirtual 234, 3) := by decide +kernel
theorem dX11_capacityIf_23 : decode cX11_capacityIf 23 = .ok (.aload_n 0, 1) := by decide +kernel
theorem dX11_capacityIf_24 : decode cX11_capacityIf 24 = .ok (.iload_n 1, 1) := by decide +kernel
theorem dX11_capacityIf_25 : decode cX11_capacityIf 25 = .ok (.iload_n 2, 1) := by decide +kernel
theorem dX11_capacityIf_26 : decode cX11_capacityIf 26 = .ok (.invokevirtual 288, 3) := by decide +kernel
theorem dX11_capacityIf_29 : decode cX11_capacityIf 29 = .ok (.aload_n 0, 1) := by decide +kernel
theorem dX11_capacityIf_30 : decode cX11_capacityIf 30 = .ok (.iload_n 1, 1) := by decide +kernel
theorem dX11_capacityIf_31 : decode cX11_capacityIf 31 = .ok (.iconst 3, 1) := by decide +kernel
theorem dX11_capacityIf_32 : decode cX11_capacityIf 32 = .ok (.invokevirtual 388, 3) := by decide +kernel
theorem dX11_capacityIf_35 : decode cX11_capacityIf 35 = .ok (.istore_n 3, 1) := by decide +kernel
theorem dX11_capacityIf_36 : decode cX11_capacityIf 36 = .ok (.iload_n 3, 1) := by decide +kernel
theorem dX11_capacityIf_37 : decode cX11_capacityIf 37 = .ok (.iconst (-1), 1) := by decide +kernel
theorem dX11_capacityIf_38 : decode cX11_capacityIf 38 = .ok (.if_icmp .ne 7, 3) := by decide +kernel
theorem dX11_capacityIf_41 : decode cX11_capacityIf 41 = .ok (.iconst (-1), 1) := by decide +kernel
theorem dX11_capacityIf_42 : decode cX11_capacityIf 42 = .ok (.goto 10, 3) := by decide +kernel
theorem dX11_capacityIf_45 : decode cX11_capacityIf 45 = .ok (.aload_n 0, 1) := by decide +kernel
theorem dX11_capacityIf_46 : decode cX11_capacityIf 46 = .ok (.iload_n 1, 1) := by decide +kernel
theorem dX11_capacityIf_47 : decode cX11_capacityIf 47 = .ok (.bipush 20, 2) := by decide +kernel
theorem dX11_capacityIf_49 : decode cX11_capacityIf 49 = .ok (.invokevirtual 209, 3) := by decide +kernel
theorem dX11_capacityIf_52 : decode cX11_capacityIf 52 = .ok (.istore 4, 2) := by decide +kernel
theorem dX11_capacityIf_54 : decode cX11_capacityIf 54 = .ok (.aload_n 0, 1) := by decide +kernel
theorem dX11_capacityIf_55 : decode cX11_capacityIf 55 = .ok (.invokevirtual 385, 3) := by decide +kernel
theorem dX11_capacityIf_58 : decode cX11_capacityIf 58 = .ok (.iload 4, 2) := by decide +kernel
theorem dX11_capacityIf_60 : decode cX11_capacityIf 60 = .ok (.ireturn, 1) := by decide +kernel
set_option maxRecDepth 100000 in
set_option maxHeartbeats 4000000 in
theorem m_X11_capacityIf (l : Launch) (D : va_G) (ct : Nat → ClassId) (S : ty_S) (ws : va_W) (ph : va_W → Prop) (xx : Nat → Nat → Nat → Prop) (mo : Nat) (mw : Nat) (ma : Nat) (mf : Nat) (m0 : Nat) (m1 : Nat) (mu : Nat) (mv : Nat) (u0 : Nat) (u1 : Nat) (iz : Nat) (mb : Nat) (th : Int32) (mn : Int32) (mpt : Int32) (mbg : Int32) (mwr : Int32) (mwk : Int32) (mlf : Int32) (men : Int32) (f : Nat → Int32) (G : Nat → Int32) (fa : Nat → Int32) (p1 : Int32) (p2 : Int32) (sz : Nat) (hT : ty_V ct S ph ws) (h_mu : S mu = some (.inr (1, 42))) (h_mv : S mv = some (.inr (1, 42))) (h_u0 : S u0 = some (.inr (1, 42))) (h_u1 : S u1 = some (.inr (1, 42))) (hph : ty_C ph xx) (hy1 : ty_y1 xx) (hy11 : ty_y0 xx 11) (hR : rf_R G (-1) f) : Met l yX11_capacityIf (ws_ yX11_capacityIf cX11_capacityIf 5 (some .int)) ({ frames := 9, cells := 0, slots := 0, locals := 209 } : Room) (va_Pc [.ref mo, .int p1, .int p2] (cmP D ct sz ([(rf_MO mo mw ma mf m0 m1 mu mv u0 u1 iz th mb mn mpt mbg mwr mwk mlf men), (rf_RW ct 0 mw 958 f), (rf_RW ct 0 ma 958 fa)] ++ ws))) (va_Qi (fun (r : Int32) (u : va_W × Int32 × Int32 × (Nat → Int32) × (Nat → Int32)) => match u with | (u9, men1, th1, f1, fa1) => ty_V ct S ph u9 ∧ rf_d (f 8) f f1 ∧ rf_R G (-1) f1) (cmB D ([(rf_MO mo mw ma mf m0 m1 mu mv u0 u1 iz th mb mn mpt mbg mwr mwk mlf men), (rf_RW ct 0 mw 958 f), (rf_RW ct 0 ma 958 fa)] ++ ws) sz (fun (u : va_W × Int32 × Int32 × (Nat → Int32) × (Nat → Int32)) => match u with | (u9, men1, th1, f1, fa1) => ([(rf_MO mo mw ma mf m0 m1 mu mv u0 u1 iz th1 mb mn mpt mbg mwr mwk mlf men1), (rf_RW ct 0 mw 958 f1), (rf_RW ct 0 ma 958 fa1)] ++ u9))) (va_A ([(rf_MO mo mw ma mf m0 m1 mu mv u0 u1 iz th mb mn mpt mbg mwr mwk mlf men), (rf_RW ct 0 mw 958 f), (rf_RW ct 0 ma 958 fa)] ++ ws) sz)) 0 0 (va_A ([(rf_MO mo mw ma mf m0 m1 mu mv u0 u1 iz th mb mn mpt mbg mwr mwk mlf men), (rf_RW ct 0 mw 958 f), (rf_RW ct 0 ma 958 fa)] ++ ws) sz) := by
  refine Met.ofW (cc := cX11_capacityIf) (maxL := 5) (ret := (some .int)) (by decide) rfl ?_
  intro p e s m args below meth c s₁ B hml hv
  obtain ⟨rfl, hsz, hP, hK, hD0, hX⟩ := hv
  have hx := B.exec
  have hb := B.bytes
  have hr := B.returns
  have hts := ws_all (atoms_spec (ws := ws_ yX11_capacityIf cX11_capacityIf 5 (some .int)) B.pre)
  have hown : s.vm.findClass RX11 = some m.cls := findClass_of_methodNamed B.named
  have hlocks := B.notSynchronized
  subst hsz
  have hD := hD0.self (sz := s.heap.size)
  generalize hAe : va_A ([(rf_MO mo mw ma mf m0 m1 mu mv u0 u1 iz th mb mn mpt mbg mwr mwk mlf men), (rf_RW ct 0 mw 958 f), (rf_RW ct 0 ma 958 fa)] ++ ws) s.heap.size = A at hD hX ⊢
  have hA : ∀ q : Nat, s.heap.size ≤ q → A q := fun q h => by rw [← hAe]; exact Or.inr h
  have hS : va_S A s.heap s.heap [] := va_S.rf
  have hl := lv_entry ([.ref mo, .int p1, .int p2]) (n := 5) (Nat.le_of_ble_eq_true rfl)
  rw [lg_entry_eq]
  generalize (lg_sl ([.ref mo, .int p1, .int p2]) ++ List.replicate (5 - (lg_sl ([.ref mo, .int p1, .int p2])).length) Slot.unset).toArray = ls at hl ⊢
  have hl : lv_has ls 5 [(0, .ref mo), (1, .int p1), (2, .int p2)] := hl
  refine lv_aload_n hx hb dX11_capacityIf_0 rfl (lv_at hl 0 rfl) ?_
  refine lv_iload_n hx hb dX11_capacityIf_1 rfl (lv_at hl 1 rfl) ?_
  refine lv_iload_n hx hb dX11_capacityIf_2 rfl (lv_at hl 2 rfl) ?_
  have hP : va_P D vwCl ([(rf_RW ct 0 ma 958 fa), (rf_MO mo mw ma mf m0 m1 mu mv u0 u1 iz th mb mn mpt mbg mwr mwk mlf men), (rf_RW ct 0 mw 958 f)] ++ ws) s.heap := ty_permP hP (ty_ordp (E := [(rf_MO mo mw ma mf m0 m1 mu mv u0 u1 iz th mb mn mpt mbg mwr mwk mlf men), (rf_RW ct 0 mw 958 f), (rf_RW ct 0 ma 958 fa)]) (E2 := [(rf_RW ct 0 ma 958 fa), (rf_MO mo mw ma mf m0 m1 mu mv u0 u1 iz th mb mn mpt mbg mwr mwk mlf men), (rf_RW ct 0 mw 958 f)]) (n := 3) [2, 0, 1] rfl rfl (by decide))
  have hD : va_D A ([(rf_RW ct 0 ma 958 fa), (rf_MO mo mw ma mf m0 m1 mu mv u0 u1 iz th mb mn mpt mbg mwr mwk mlf men), (rf_RW ct 0 mw 958 f)] ++ ws) := ty_permD hD (ty_ordp (E := [(rf_MO mo mw ma mf m0 m1 mu mv u0 u1 iz th mb mn mpt mbg mwr mwk mlf men), (rf_RW ct 0 mw 958 f), (rf_RW ct 0 ma 958 fa)]) (E2 := [(rf_RW ct 0 ma 958 fa), (rf_MO mo mw ma mf m0 m1 mu mv u0 u1 iz th mb mn mpt mbg mwr mwk mlf men), (rf_RW ct 0 mw 958 f)]) (n := 3) [2, 0, 1] rfl rfl (by decide))
  refine ty_ki (wr := [(rf_RW ct 0 ma 958 fa)]) (wc := ([(rf_MO mo mw ma mf m0 m1 mu mv u0 u1 iz th mb mn mpt mbg mwr mwk mlf men), (rf_RW ct 0 mw 958 f)] ++ ws)) (va_runV (As := [.int p1, .int p2]) (rest := []) ⟨hx, hb, hml, hown, hts⟩ (m_X11_noProgram l D ct S ws ph xx mo mw ma mf m0 m1 mu mv u0 u1 iz mb th mn mpt mbg mwr mwk mlf men f G (-1) p1 p2 _ hT h_mu h_mv h_u0 h_u1 hph hy1 hR) (cm_V 2 hts kc_X11_noProgram ki_RX11 kl_RX11_347 kv_X11_noProgram kx_X11_noProgram kd_X11_noProgram ⟨Nat.le_of_ble_eq_true rfl, Nat.le_of_ble_eq_true rfl⟩) (ty_preE (wr := [(rf_RW ct 0 ma 958 fa)]) (wc := ([(rf_MO mo mw ma mf m0 m1 mu mv u0 u1 iz th mb mn mpt mbg mwr mwk mlf men), (rf_RW ct 0 mw 958 f)] ++ ws)) (ci := 11) (q0 := 1) hP hK hD hS hA hX rfl rfl) rfl rfl hl.1 rfl (lv_room (Nat.le_of_ble_eq_true rfl)) dX11_capacityIf_3 ⟨Nat.le_of_ble_eq_true rfl, Nat.le_of_ble_eq_true rfl⟩) hP hD hS hA (fun r_1 u H locs hw_2 hP hD hS => ?_)
  obtain ⟨ws_3, th1_4⟩ := u
  obtain ⟨hT, hp_5⟩ := hw_2
  have hp_5 : ((r_1 = 0 ∧ (0 ≤ p1.toInt ∧ p1.toInt < (G 9).toInt) ∧ 0 ≤ p2.toInt ∧ p2.toInt < (G 10).toInt) ∨ r_1 = 1) := hp_5
  have hP : va_P D vwCl ([(rf_RW ct 0 ma 958 fa), (rf_MO mo mw ma mf m0 m1 mu mv u0 u1 iz th1_4 mb mn mpt mbg mwr mwk mlf men), (rf_RW ct 0 mw 958 f)] ++ ws_3) H := hP
  have hD : va_D A ([(rf_RW ct 0 ma 958 fa), (rf_MO mo mw ma mf m0 m1 mu mv u0 u1 iz th1_4 mb mn mpt mbg mwr mwk mlf men), (rf_RW ct 0 mw 958 f)] ++ ws_3) := hD
  rcases hp_5 with ⟨rfl, hz_6⟩ | rfl
  · refine lv_if_eq (tgt := 11) hx hb dX11_capacityIf_6 (by decide) (fun _ => ?_) (fun hc => absurd (by decide) hc)
    refine lv_aload_n hx hb dX11_capacityIf_11 rfl (lv_at hl 0 rfl) ?_
    have hP : va_P D vwCl ([(rf_MO mo mw ma mf m0 m1 mu mv u0 u1 iz th1_4 mb mn mpt mbg mwr mwk mlf men), (rf_RW ct 0 mw 958 f), (rf_RW ct 0 ma 958 fa)] ++ ws_3) H := ty_permP hP (ty_ordp (E := [(rf_RW ct 0 ma 958 fa), (rf_MO mo mw ma mf m0 m1 mu mv u0 u1 iz th1_4 mb mn mpt mbg mwr mwk mlf men), (rf_RW ct 0 mw 958 f)]) (E2 := [(rf_MO mo mw ma mf m0 m1 mu mv u0 u1 iz th1_4 mb mn mpt mbg mwr mwk mlf men), (rf_RW ct 0 mw 958 f), (rf_RW ct 0 ma 958 fa)]) (n := 3) [1, 2, 0] rfl rfl (by decide))
    have hD : va_D A ([(rf_MO mo mw ma mf m0 m1 mu mv u0 u1 iz th1_4 mb mn mpt mbg mwr mwk mlf men), (rf_RW ct 0 mw 958 f), (rf_RW ct 0 ma 958 fa)] ++ ws_3) := ty_permD hD (ty_ordp (E := [(rf_RW ct 0 ma 958 fa), (rf_MO mo mw ma mf m0 m1 mu mv u0 u1 iz th1_4 mb mn mpt mbg mwr mwk mlf men), (rf_RW ct 0 mw 958 f)]) (E2 := [(rf_MO mo mw ma mf m0 m1 mu mv u0 u1 iz th1_4 mb mn mpt mbg mwr mwk mlf men), (rf_RW ct 0 mw 958 f), (rf_RW ct 0 ma 958 fa)]) (n := 3) [1, 2, 0] rfl rfl (by decide))
    refine ty_kv (wr := []) (wc := ([(rf_MO mo mw ma mf m0 m1 mu mv u0 u1 iz th1_4 mb mn mpt mbg mwr mwk mlf men), (rf_RW ct 0 mw 958 f), (rf_RW ct 0 ma 958 fa)] ++ ws_3)) (va_runV (As := []) (rest := []) ⟨hx, hb, hml, hown, hts⟩ (m_X11_goesAside l D ct S ws_3 ph xx mo mw ma mf m0 m1 mu mv u0 u1 iz mb th1_4 mn mpt mbg mwr mwk mlf men f G fa _ hT h_mu h_mv h_u0 h_u1 hph hy1 hy11 hR) (cm_V 0 hts kc_X11_goesAside ki_RX11 kl_RX11_379 kv_X11_goesAside kx_X11_goesAside kd_X11_goesAside ⟨Nat.le_of_ble_eq_true rfl, Nat.le_of_ble_eq_true rfl⟩) (ty_preE (wr := []) (wc := ([(rf_MO mo mw ma mf m0 m1 mu mv u0 u1 iz th1_4 mb mn mpt mbg mwr mwk mlf men), (rf_RW ct 0 mw 958 f), (rf_RW ct 0 ma 958 fa)] ++ ws_3)) (ci := 11) (q0 := 0) hP hK hD hS hA hX rfl rfl) rfl rfl hl.1 rfl (lv_room (Nat.le_of_ble_eq_true rfl)) dX11_capacityIf_12 ⟨Nat.le_of_ble_eq_true rfl, Nat.le_of_ble_eq_true rfl⟩) hP hD hS hA (fun u H locs hw_8 hP hD hS => ?_)
    obtain ⟨ws_9, fa1_10⟩ := u
    obtain ⟨hT, hp_11⟩ := hw_8
    have hp_11 : rf_R G (-1) fa1_10 ∧ fa1_10 8 = f 8 := hp_11
    have hP : va_P D vwCl ([(rf_MO mo mw ma mf m0 m1 mu mv u0 u1 iz th1_4 mb mn mpt mbg mwr mwk mlf (0)), (rf_RW ct 0 mw 958 f), (rf_RW ct 0 ma 958 fa1_10)] ++ ws_9) H := hP
    have hD : va_D A ([(rf_MO mo mw ma mf m0 m1 mu mv u0 u1 iz th1_4 mb mn mpt mbg mwr mwk mlf (0)), (rf_RW ct 0 mw 958 f), (rf_RW ct 0 ma 958 fa1_10)] ++ ws_9) := hD
    refine lv_aload_n hx hb dX11_capacityIf_15 rfl (lv_at hl 0 rfl) ?_
    refine lv_iload_n hx hb dX11_capacityIf_16 rfl (lv_at hl 1 rfl) ?_
    refine lv_bipush (v := 39) hx hb dX11_capacityIf_17 (by decide) ?_
    refine lv_iconst (v := 0) hx hb dX11_capacityIf_19 (by decide) ?_
    have hP : va_P D vwCl ([(rf_RW ct 0 ma 958 fa1_10), (rf_MO mo mw ma mf m0 m1 mu mv u0 u1 iz th1_4 mb mn mpt mbg mwr mwk mlf (0)), (rf_RW ct 0 mw 958 f)] ++ ws_9) H := ty_permP hP (ty_ordp (E := [(rf_MO mo mw ma mf m0 m1 mu mv u0 u1 iz th1_4 mb mn mpt mbg mwr mwk mlf (0)), (rf_RW ct 0 mw 958 f), (rf_RW ct 0 ma 958 fa1_10)]) (E2 := [(rf_RW ct 0 ma 958 fa1_10), (rf_MO mo mw ma mf m0 m1 mu mv u0 u1 iz th1_4 mb mn mpt mbg mwr mwk mlf (0)), (rf_RW ct 0 mw 958 f)]) (n := 3) [2, 0, 1] rfl rfl (by decide))
    have hD : va_D A ([(rf_RW ct 0 ma 958 fa1_10), (rf_MO mo mw ma mf m0 m1 mu mv u0 u1 iz th1_4 mb mn mpt mbg mwr mwk mlf (0)), (rf_RW ct 0 mw 958 f)] ++ ws_9) := ty_permD hD (ty_ordp (E := [(rf_MO mo mw ma mf m0 m1 mu mv u0 u1 iz th1_4 mb mn mpt mbg mwr mwk mlf (0)), (rf_RW ct 0 mw 958 f), (rf_RW ct 0 ma 958 fa1_10)]) (E2 := [(rf_RW ct 0 ma 958 fa1_10), (rf_MO mo mw ma mf m0 m1 mu mv u0 u1 iz th1_4 mb mn mpt mbg mwr mwk mlf (0)), (rf_RW ct 0 mw 958 f)]) (n := 3) [2, 0, 1] rfl rfl (by decide))
    refine ty_kv (wr := [(rf_RW ct 0 ma 958 fa1_10)]) (wc := ([(rf_MO mo mw ma mf m0 m1 mu mv u0 u1 iz th1_4 mb mn mpt mbg mwr mwk mlf (0)), (rf_RW ct 0 mw 958 f)] ++ ws_9)) (va_runV (As := [.int p1, .int 39, .int 0]) (rest := []) ⟨hx, hb, hml, hown, hts⟩ (m_put_39 l D ct S ws_9 ph xx mo mw ma mf m0 m1 mu mv u0 u1 iz mb th1_4 mn mpt mbg mwr mwk mlf (0 : Int32) f G (-1) p1 (0 : Int32) _ hT h_mu h_mv h_u0 h_u1 hph hy1 hR hz_6.1 (rf_z39)) (cm_V 3 hts kc_X11_put ki_RX11 kl_RX11_234 kv_X11_put kx_X11_put kd_X11_put ⟨Nat.le_of_ble_eq_true rfl, Nat.le_of_ble_eq_true rfl⟩) (ty_preE (wr := [(rf_RW ct 0 ma 958 fa1_10)]) (wc := ([(rf_MO mo mw ma mf m0 m1 mu mv u0 u1 iz th1_4 mb mn mpt mbg mwr mwk mlf (0)), (rf_RW ct 0 mw 958 f)] ++ ws_9)) (ci := 11) (q0 := 1) hP hK hD hS hA hX rfl rfl) rfl rfl hl.1 rfl (lv_room (Nat.le_of_ble_eq_true rfl)) dX11_capacityIf_20 ⟨Nat.le_of_ble_eq_true rfl, Nat.le_of_ble_eq_true rfl⟩) hP hD hS hA (fun u H locs hw_13 hP hD hS => ?_)
    obtain ⟨ws_14, f1_15⟩ := u
    obtain ⟨hT, hp_16⟩ := hw_13
    have hp_16 : rf_d (f 8) f f1_15 ∧ rf_R G (-1) f1_15 ∧ rf_sm f f1_15 ∧ f1_15 = upd f (244 + 54 * p1.toInt.toNat + 39) (0 : Int32) := hp_16
    obtain ⟨hd_17, hq_18⟩ := hp_16
    have hD_19 := rf_dt (rf_dr f) hd_17
    have hR_20 := hq_18.1
    have hM_21 := rf_smt (rf_smr f) hq_18.2.1
    have hP : va_P D vwCl ([(rf_RW ct 0 ma 958 fa1_10), (rf_MO mo mw ma mf m0 m1 mu mv u0 u1 iz th1_4 mb mn mpt mbg mwr mwk mlf (0)), (rf_RW ct 0 mw 958 f1_15)] ++ ws_14) H := hP
    have hD : va_D A ([(rf_RW ct 0 ma 958 fa1_10), (rf_MO mo mw ma mf m0 m1 mu mv u0 u1 iz th1_4 mb mn mpt mbg mwr mwk mlf (0)), (rf_RW ct 0 mw 958 f1_15)] ++ ws_14) := hD
    refine lv_aload_n hx hb dX11_capacityIf_23 rfl (lv_at hl 0 rfl) ?_
    refine lv_iload_n hx hb dX11_capacityIf_24 rfl (lv_at hl 1 rfl) ?_
    refine lv_iload_n hx hb dX11_capacityIf_25 rfl (lv_at hl 2 rfl) ?_
    refine ty_kv (wr := [(rf_RW ct 0 ma 958 fa1_10)]) (wc := ([(rf_MO mo mw ma mf m0 m1 mu mv u0 u1 iz th1_4 mb mn mpt mbg mwr mwk mlf (0)), (rf_RW ct 0 mw 958 f1_15)] ++ ws_14)) (va_runV (As := [.int p1, .int p2]) (rest := []) ⟨hx, hb, hml, hown, hts⟩ (m_X11_startsOn l D ct S ws_14 ph xx mo mw ma mf m0 m1 mu mv u0 u1 iz mb th1_4 mn mpt mbg mwr mwk mlf (0 : Int32) f1_15 G (-1) p1 p2 _ hT h_mu h_mv h_u0 h_u1 hph hy1 hy11 hR_20 hz_6.1 (Or.inl rfl) hz_6.2) (cm_V 2 hts kc_X11_startsOn ki_RX11 kl_RX11_288 kv_X11_startsOn kx_X11_startsOn kd_X11_startsOn ⟨Nat.le_of_ble_eq_true rfl, Nat.le_of_ble_eq_true rfl⟩) (ty_preE (wr := [(rf_RW ct 0 ma 958 fa1_10)]) (wc := ([(rf_MO mo mw ma mf m0 m1 mu mv u0 u1 iz th1_4 mb mn mpt mbg mwr mwk mlf (0)), (rf_RW ct 0 mw 958 f1_15)] ++ ws_14)) (ci := 11) (q0 := 1) hP hK hD hS hA hX rfl rfl) rfl rfl hl.1 rfl (lv_room (Nat.le_of_ble_eq_true rfl)) dX11_capacityIf_26 ⟨Nat.le_of_ble_eq_true rfl, Nat.le_of_ble_eq_true rfl⟩) hP hD hS hA (fun u H locs hw_23 hP hD hS => ?_)
    obtain ⟨ws_24, f1_25⟩ := u
    obtain ⟨hT, hp_26⟩ := hw_23
    have hp_26 : rf_d (f1_15 8) f1_15 f1_25 ∧ rf_R G (-1) f1_25 := hp_26
    obtain ⟨hd_27, hq_28⟩ := hp_26
    have hD_29 := rf_dt hD_19 hd_27
    have hR_30 := hq_28
    have hP : va_P D vwCl ([(rf_RW ct 0 ma 958 fa1_10), (rf_MO mo mw ma mf m0 m1 mu mv u0 u1 iz th1_4 mb mn mpt mbg mwr mwk mlf (0)), (rf_RW ct 0 mw 958 f1_25)] ++ ws_24) H := hP
    have hD : va_D A ([(rf_RW ct 0 ma 958 fa1_10), (rf_MO mo mw ma mf m0 m1 mu mv u0 u1 iz th1_4 mb mn mpt mbg mwr mwk mlf (0)), (rf_RW ct 0 mw 958 f1_25)] ++ ws_24) := hD
    refine lv_aload_n hx hb dX11_capacityIf_29 rfl (lv_at hl 0 rfl) ?_
    refine lv_iload_n hx hb dX11_capacityIf_30 rfl (lv_at hl 1 rfl) ?_
    refine lv_iconst (v := 3) hx hb dX11_capacityIf_31 (by decide) ?_
    refine ty_ki (wr := [(rf_RW ct 0 ma 958 fa1_10)]) (wc := ([(rf_MO mo mw ma mf m0 m1 mu mv u0 u1 iz th1_4 mb mn mpt mbg mwr mwk mlf (0)), (rf_RW ct 0 mw 958 f1_25)] ++ ws_24)) (va_runV (As := [.int p1, .int 3]) (rest := []) ⟨hx, hb, hml, hown, hts⟩ (m_X11_until l D ct S ws_24 ph xx mo mw ma mf m0 m1 mu mv u0 u1 iz mb th1_4 mn mpt mbg mwr mwk mlf (0 : Int32) f1_25 G p1 (3 : Int32) _ hT h_mu h_mv h_u0 h_u1 hph hy1 hy11 hR_30 hz_6.1) (cm_V 2 hts kc_X11_until ki_RX11 kl_RX11_388 kv_X11_until kx_X11_until kd_X11_until ⟨Nat.le_of_ble_eq_true rfl, Nat.le_of_ble_eq_true rfl⟩) (ty_preE (wr := [(rf_RW ct 0 ma 958 fa1_10)]) (wc := ([(rf_MO mo mw ma mf m0 m1 mu mv u0 u1 iz th1_4 mb mn mpt mbg mwr mwk mlf (0)), (rf_RW ct 0 mw 958 f1_25)] ++ ws_24)) (ci := 11) (q0 := 1) hP hK hD hS hA hX rfl rfl) rfl rfl hl.1 rfl (lv_room (Nat.le_of_ble_eq_true rfl)) dX11_capacityIf_32 ⟨Nat.le_of_ble_eq_true rfl, Nat.le_of_ble_eq_true rfl⟩) hP hD hS hA (fun r_32 u H locs hw_33 hP hD hS => ?_)
    obtain ⟨ws_34, men1_35, f1_36⟩ := u
    obtain ⟨hT, hp_37⟩ := hw_33
    have hp_37 : rf_R G (-1) f1_36 := hp_37
    have hR_38 := hp_37
    have hP : va_P D vwCl ([(rf_RW ct 0 ma 958 fa1_10), (rf_MO mo mw ma mf m0 m1 mu mv u0 u1 iz th1_4 mb mn mpt mbg mwr mwk mlf men1_35), (rf_RW ct 0 mw 958 f1_36)] ++ ws_34) H := hP
    have hD : va_D A ([(rf_RW ct 0 ma 958 fa1_10), (rf_MO mo mw ma mf m0 m1 mu mv u0 u1 iz th1_4 mb mn mpt mbg mwr mwk mlf men1_35), (rf_RW ct 0 mw 958 f1_36)] ++ ws_34) := hD
    refine lv_istore_n (lv' := [(3, .int r_32), (0, .ref mo), (1, .int p1), (2, .int p2)]) hx hb dX11_capacityIf_35 rfl hl (by decide) rfl (fun ls hl => ?_)
    refine lv_iload_n hx hb dX11_capacityIf_36 rfl (lv_at hl 0 rfl) ?_
    refine lv_iconst (v := (-1)) hx hb dX11_capacityIf_37 (by decide) ?_
    refine lv_icmp_ne (tgt := 45) hx hb dX11_capacityIf_38 (by decide) (fun hc_40 => ?_) (fun hc_40 => ?_)
    · refine lv_aload_n hx hb dX11_capacityIf_45 rfl (lv_at hl 1 rfl) ?_
      refine lv_iload_n hx hb dX11_capacityIf_46 rfl (lv_at hl 2 rfl) ?_
      refine lv_bipush (v := 20) hx hb dX11_capacityIf_47 (by decide) ?_
      refine ty_ki (wr := [(rf_RW ct 0 ma 958 fa1_10)]) (wc := ([(rf_MO mo mw ma mf m0 m1 mu mv u0 u1 iz th1_4 mb mn mpt mbg mwr mwk mlf men1_35), (rf_RW ct 0 mw 958 f1_36)] ++ ws_34)) (va_runV (As := [.int p1, .int 20]) (rest := []) ⟨hx, hb, hml, hown, hts⟩ (m_of_20 l D ct S ws_34 ph xx mo mw ma mf m0 m1 mu mv u0 u1 iz mb th1_4 mn mpt mbg mwr mwk mlf men1_35 f1_36 G (-1) p1 _ hT h_mu h_mv h_u0 h_u1 hph hy1 hR_38 hz_6.1) (cm_V 2 hts kc_X11_of ki_RX11 kl_RX11_209 kv_X11_of kx_X11_of kd_X11_of ⟨Nat.le_of_ble_eq_true rfl, Nat.le_of_ble_eq_true rfl⟩) (ty_preE (wr := [(rf_RW ct 0 ma 958 fa1_10)]) (wc := ([(rf_MO mo mw ma mf m0 m1 mu mv u0 u1 iz th1_4 mb mn mpt mbg mwr mwk mlf men1_35), (rf_RW ct 0 mw 958 f1_36)] ++ ws_34)) (ci := 11) (q0 := 1) hP hK hD hS hA hX rfl rfl) rfl rfl hl.1 rfl (lv_room (Nat.le_of_ble_eq_true rfl)) dX11_capacityIf_49 ⟨Nat.le_of_ble_eq_true rfl, Nat.le_of_ble_eq_true rfl⟩) hP hD hS hA (fun r_41 u H locs hw_42 hP hD hS => ?_)
      obtain ⟨ws_43, rfl⟩ : ∃ z, z = u := ⟨_, rfl⟩
      obtain ⟨hT, rfl⟩ := hw_42
      have hP : va_P D vwCl ([(rf_RW ct 0 ma 958 fa1_10), (rf_MO mo mw ma mf m0 m1 mu mv u0 u1 iz th1_4 mb mn mpt mbg mwr mwk mlf men1_35), (rf_RW ct 0 mw 958 f1_36)] ++ ws_43) H := hP
      have hD : va_D A ([(rf_RW ct 0 ma 958 fa1_10), (rf_MO mo mw ma mf m0 m1 mu mv u0 u1 iz th1_4 mb mn mpt mbg mwr mwk mlf men1_35), (rf_RW ct 0 mw 958 f1_36)] ++ ws_43) := hD
      refine lv_istore (lv' := [(4, .int (rf_of f1_36 p1 20)), (3, .int r_32), (0, .ref mo), (1, .int p1), (2, .int p2)]) hx hb dX11_capacityIf_52 hl (by decide) rfl (fun ls hl => ?_)
      refine lv_aload_n hx hb dX11_capacityIf_54 rfl (lv_at hl 2 rfl) ?_
      have hP : va_P D vwCl ([(rf_MO mo mw ma mf m0 m1 mu mv u0 u1 iz th1_4 mb mn mpt mbg mwr mwk mlf men1_35), (rf_RW ct 0 mw 958 f1_36), (rf_RW ct 0 ma 958 fa1_10)] ++ ws_43) H := ty_permP hP (ty_ordp (E := [(rf_RW ct 0 ma 958 fa1_10), (rf_MO mo mw ma mf m0 m1 mu mv u0 u1 iz th1_4 mb mn mpt mbg mwr mwk mlf men1_35), (rf_RW ct 0 mw 958 f1_36)]) (E2 := [(rf_MO mo mw ma mf m0 m1 mu mv u0 u1 iz th1_4 mb mn mpt mbg mwr mwk mlf men1_35), (rf_RW ct 0 mw 958 f1_36), (rf_RW ct 0 ma 958 fa1_10)]) (n := 3) [1, 2, 0] rfl rfl (by decide))
      have hD : va_D A ([(rf_MO mo mw ma mf m0 m1 mu mv u0 u1 iz th1_4 mb mn mpt mbg mwr mwk mlf men1_35), (rf_RW ct 0 mw 958 f1_36), (rf_RW ct 0 ma 958 fa1_10)] ++ ws_43) := ty_permD hD (ty_ordp (E := [(rf_RW ct 0 ma 958 fa1_10), (rf_MO mo mw ma mf m0 m1 mu mv u0 u1 iz th1_4 mb mn mpt mbg mwr mwk mlf men1_35), (rf_RW ct 0 mw 958 f1_36)]) (E2 := [(rf_MO mo mw ma mf m0 m1 mu mv u0 u1 iz th1_4 mb mn mpt mbg mwr mwk mlf men1_35), (rf_RW ct 0 mw 958 f1_36), (rf_RW ct 0 ma 958 fa1_10)]) (n := 3) [1, 2, 0] rfl rfl (by decide))
      refine ty_kv (wr := []) (wc := ([(rf_MO mo mw ma mf m0 m1 mu mv u0 u1 iz th1_4 mb mn mpt mbg mwr mwk mlf men1_35), (rf_RW ct 0 mw 958 f1_36), (rf_RW ct 0 ma 958 fa1_10)] ++ ws_43)) (va_runV (As := []) (rest := []) ⟨hx, hb, hml, hown, hts⟩ (m_X11_comesBack l D ct S ws_43 ph xx mo mw ma mf m0 m1 mu mv u0 u1 iz mb th1_4 mn mpt mbg mwr mwk mlf men1_35 f1_36 G fa1_10 _ hT h_mu h_mv h_u0 h_u1 hph hy1 hy11 hp_11.1) (cm_V 0 hts kc_X11_comesBack ki_RX11 kl_RX11_385 kv_X11_comesBack kx_X11_comesBack kd_X11_comesBack ⟨Nat.le_of_ble_eq_true rfl, Nat.le_of_ble_eq_true rfl⟩) (ty_preE (wr := []) (wc := ([(rf_MO mo mw ma mf m0 m1 mu mv u0 u1 iz th1_4 mb mn mpt mbg mwr mwk mlf men1_35), (rf_RW ct 0 mw 958 f1_36), (rf_RW ct 0 ma 958 fa1_10)] ++ ws_43)) (ci := 11) (q0 := 0) hP hK hD hS hA hX rfl rfl) rfl rfl hl.1 rfl (lv_room (Nat.le_of_ble_eq_true rfl)) dX11_capacityIf_55 ⟨Nat.le_of_ble_eq_true rfl, Nat.le_of_ble_eq_true rfl⟩) hP hD hS hA (fun u H locs hw_45 hP hD hS => ?_)
      obtain ⟨ws_46, f1_47⟩ := u
      obtain ⟨hT, hp_48⟩ := hw_45
      have hp_48 : rf_R G (-1) f1_47 ∧ f1_47 8 = fa1_10 8 := hp_48
      have hR_49 := hp_48.1
      have hP : va_P D vwCl ([(rf_MO mo mw ma mf m0 m1 mu mv u0 u1 iz th1_4 mb mn mpt mbg mwr mwk mlf men1_35), (rf_RW ct 0 mw 958 f1_47), (rf_RW ct 0 ma 958 fa1_10)] ++ ws_46) H := hP
      have hD : va_D A ([(rf_MO mo mw ma mf m0 m1 mu mv u0 u1 iz th1_4 mb mn mpt mbg mwr mwk mlf men1_35), (rf_RW ct 0 mw 958 f1_47), (rf_RW ct 0 ma 958 fa1_10)] ++ ws_46) := hD
      have hD_51 := rf_dg (rf_dr f) hp_11.2 hp_48.2
      refine lv_iload hx hb dX11_capacityIf_58 (lv_at hl 0 rfl) ?_
      exact W.iret (v := (rf_of f1_36 p1 20)) hx hb hr (fun t ht hW => ⟨⟨(rf_of f1_36 p1 20), (ws_46, men1_35, th1_4, f1_47, fa1_10), rfl, ⟨hT, ⟨hD_51, hR_49⟩⟩, by rw [ht]; exact hP, by rw [hAe]; exact hD⟩, hS.F ht⟩) hS.2.2 dX11_capacityIf_60
    · refine lv_iconst (v := (-1)) hx hb dX11_capacityIf_41 (by decide) ?_
      refine lv_goto (tgt := 52) hx hb dX11_capacityIf_42 (by decide) ?_
      refine lv_istore (lv' := [(4, .int (-1)), (3, .int r_32), (0, .ref mo), (1, .int p1), (2, .int p2)]) hx hb dX11_capacityIf_52 hl (by decide) rfl (fun ls hl => ?_)
      refine lv_aload_n hx hb dX11_capacityIf_54 rfl (lv_at hl 2 rfl) ?_
      have hP : va_P D vwCl ([(rf_MO mo mw ma mf m0 m1 mu mv u0 u1 iz th1_4 mb mn mpt mbg mwr mwk mlf men1_35), (rf_RW ct 0 mw 958 f1_36), (rf_RW ct 0 ma 958 fa1_10)] ++ ws_34) H := ty_permP hP (ty_ordp (E := [(rf_RW ct 0 ma 958 fa1_10), (rf_MO mo mw ma mf m0 m1 mu mv u0 u1 iz th1_4 mb mn mpt mbg mwr mwk mlf men1_35), (rf_RW ct 0 mw 958 f1_36)]) (E2 := [(rf_MO mo mw ma mf m0 m1 mu mv u0 u1 iz th1_4 mb mn mpt mbg mwr mwk mlf men1_35), (rf_RW ct 0 mw 958 f1_36), (rf_RW ct 0 ma 958 fa1_10)]) (n := 3) [1, 2, 0] rfl rfl (by decide))
      have hD : va_D A ([(rf_MO mo mw ma mf m0 m1 mu mv u0 u1 iz th1_4 mb mn mpt mbg mwr mwk mlf men1_35), (rf_RW ct 0 mw 958 f1_36), (rf_RW ct 0 ma 958 fa1_10)] ++ ws_34) := ty_permD hD (ty_ordp (E := [(rf_RW ct 0 ma 958 fa1_10), (rf_MO mo mw ma mf m0 m1 mu mv u0 u1 iz th1_4 mb mn mpt mbg mwr mwk mlf men1_35), (rf_RW ct 0 mw 958 f1_36)]) (E2 := [(rf_MO mo mw ma mf m0 m1 mu mv u0 u1 iz th1_4 mb mn mpt mbg mwr mwk mlf men1_35), (rf_RW ct 0 mw 958 f1_36), (rf_RW ct 0 ma 958 fa1_10)]) (n := 3) [1, 2, 0] rfl rfl (by decide))
      refine ty_kv (wr := []) (wc := ([(rf_MO mo mw ma mf m0 m1 mu mv u0 u1 iz th1_4 mb mn mpt mbg mwr mwk mlf men1_35), (rf_RW ct 0 mw 958 f1_36), (rf_RW ct 0 ma 958 fa1_10)] ++ ws_34)) (va_runV (As := []) (rest := []) ⟨hx, hb, hml, hown, hts⟩ (m_X11_comesBack l D ct S ws_34 ph xx mo mw ma mf m0 m1 mu mv u0 u1 iz mb th1_4 mn mpt mbg mwr mwk mlf men1_35 f1_36 G fa1_10 _ hT h_mu h_mv h_u0 h_u1 hph hy1 hy11 hp_11.1) (cm_V 0 hts kc_X11_comesBack ki_RX11 kl_RX11_385 kv_X11_comesBack kx_X11_comesBack kd_X11_comesBack ⟨Nat.le_of_ble_eq_true rfl, Nat.le_of_ble_eq_true rfl⟩) (ty_preE (wr := []) (wc := ([(rf_MO mo mw ma mf m0 m1 mu mv u0 u1 iz th1_4 mb mn mpt mbg mwr mwk mlf men1_35), (rf_RW ct 0 mw 958 f1_36), (rf_RW ct 0 ma 958 fa1_10)] ++ ws_34)) (ci := 11) (q0 := 0) hP hK hD hS hA hX rfl rfl) rfl rfl hl.1 rfl (lv_room (Nat.le_of_ble_eq_true rfl)) dX11_capacityIf_55 ⟨Nat.le_of_ble_eq_true rfl, Nat.le_of_ble_eq_true rfl⟩) hP hD hS hA (fun u H locs hw_53 hP hD hS => ?_)
      obtain ⟨ws_54, f1_55⟩ := u
      obtain ⟨hT, hp_56⟩ := hw_53
      have hp_56 : rf_R G (-1) f1_55 ∧ f1_55 8 = fa1_10 8 := hp_56
      have hR_57 := hp_56.1
      have hP : va_P D vwCl ([(rf_MO mo mw ma mf m0 m1 mu mv u0 u1 iz th1_4 mb mn mpt mbg mwr mwk mlf men1_35), (rf_RW ct 0 mw 958 f1_55), (rf_RW ct 0 ma 958 fa1_10)] ++ ws_54) H := hP
      have hD : va_D A ([(rf_MO mo mw ma mf m0 m1 mu mv u0 u1 iz th1_4 mb mn mpt mbg mwr mwk mlf men1_35), (rf_RW ct 0 mw 958 f1_55), (rf_RW ct 0 ma 958 fa1_10)] ++ ws_54) := hD
      have hD_59 := rf_dg (rf_dr f) hp_11.2 hp_56.2
      refine lv_iload hx hb dX11_capacityIf_58 (lv_at hl 0 rfl) ?_
      exact W.iret (v := (-1)) hx hb hr (fun t ht hW => ⟨⟨(-1), (ws_54, men1_35, th1_4, f1_55, fa1_10), rfl, ⟨hT, ⟨hD_59, hR_57⟩⟩, by rw [ht]; exact hP, by rw [hAe]; exact hD⟩, hS.F ht⟩) hS.2.2 dX11_capacityIf_60
  · refine lv_if_eq (tgt := 11) hx hb dX11_capacityIf_6 (by decide) (fun hc => absurd hc (by decide)) (fun _ => ?_)
    refine lv_iconst (v := 0) hx hb dX11_capacityIf_9 (by decide) ?_
    have hP : va_P D vwCl ([(rf_MO mo mw ma mf m0 m1 mu mv u0 u1 iz th1_4 mb mn mpt mbg mwr mwk mlf men), (rf_RW ct 0 mw 958 f), (rf_RW ct 0 ma 958 fa)] ++ ws_3) H := ty_permP hP (ty_ordp (E := [(rf_RW ct 0 ma 958 fa), (rf_MO mo mw ma mf m0 m1 mu mv u0 u1 iz th1_4 mb mn mpt mbg mwr mwk mlf men), (rf_RW ct 0 mw 958 f)]) (E2 := [(rf_MO mo mw ma mf m0 m1 mu mv u0 u1 iz th1_4 mb mn mpt mbg mwr mwk mlf men), (rf_RW ct 0 mw 958 f), (rf_RW ct 0 ma 958 fa)]) (n := 3) [1, 2, 0] rfl rfl (by decide))
    have hD : va_D A ([(rf_MO mo mw ma mf m0 m1 mu mv u0 u1 iz th1_4 mb mn mpt mbg mwr mwk mlf men), (rf_RW ct 0 mw 958 f), (rf_RW ct 0 ma 958 fa)] ++ ws_3) := ty_permD hD (ty_ordp (E := [(rf_RW ct 0 ma 958 fa), (rf_MO mo mw ma mf m0 m1 mu mv u0 u1 iz th1_4 mb mn mpt mbg mwr mwk mlf men), (rf_RW ct 0 mw 958 f)]) (E2 := [(rf_MO mo mw ma mf m0 m1 mu mv u0 u1 iz th1_4 mb mn mpt mbg mwr mwk mlf men), (rf_RW ct 0 mw 958 f), (rf_RW ct 0 ma 958 fa)]) (n := 3) [1, 2, 0] rfl rfl (by decide))
    exact W.iret (v := 0) hx hb hr (fun t ht hW => ⟨⟨0, (ws_3, men, th1_4, f, fa), rfl, ⟨hT, ⟨(rf_dr f), hR⟩⟩, by rw [ht]; exact hP, by rw [hAe]; exact hD⟩, hS.F ht⟩) hS.2.2 dX11_capacityIf_10
