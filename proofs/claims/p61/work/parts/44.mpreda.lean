theorem dX11_until_0 : decode cX11_until 0 = .ok (.iconst 0, 1) := by decide +kernel
theorem dX11_until_1 : decode cX11_until 1 = .ok (.istore_n 3, 1) := by decide +kernel
theorem dX11_until_2 : decode cX11_until 2 = .ok (.aload_n 0, 1) := by decide +kernel
theorem dX11_until_3 : decode cX11_until 3 = .ok (.iload_n 1, 1) := by decide +kernel
theorem dX11_until_4 : decode cX11_until 4 = .ok (.iconst 1, 1) := by decide +kernel
theorem dX11_until_5 : decode cX11_until 5 = .ok (.invokevirtual 350, 3) := by decide +kernel
theorem dX11_until_8 : decode cX11_until 8 = .ok (.ifCond .eq 21, 3) := by decide +kernel
theorem dX11_until_11 : decode cX11_until 11 = .ok (.iload_n 3, 1) := by decide +kernel
theorem dX11_until_12 : decode cX11_until 12 = .ok (.sipush 30000, 3) := by decide +kernel
theorem dX11_until_15 : decode cX11_until 15 = .ok (.if_icmp .ge 14, 3) := by decide +kernel
theorem dX11_until_18 : decode cX11_until 18 = .ok (.aload_n 0, 1) := by decide +kernel
theorem dX11_until_19 : decode cX11_until 19 = .ok (.iload_n 1, 1) := by decide +kernel
theorem dX11_until_20 : decode cX11_until 20 = .ok (.invokevirtual 382, 3) := by decide +kernel
theorem dX11_until_23 : decode cX11_until 23 = .ok (.iinc 3 1, 3) := by decide +kernel
theorem dX11_until_26 : decode cX11_until 26 = .ok (.goto (-24), 3) := by decide +kernel
theorem dX11_until_29 : decode cX11_until 29 = .ok (.aload_n 0, 1) := by decide +kernel
theorem dX11_until_30 : decode cX11_until 30 = .ok (.iload_n 1, 1) := by decide +kernel
theorem dX11_until_31 : decode cX11_until 31 = .ok (.iload_n 2, 1) := by decide +kernel
theorem dX11_until_32 : decode cX11_until 32 = .ok (.invokevirtual 350, 3) := by decide +kernel
theorem dX11_until_35 : decode cX11_until 35 = .ok (.ifCond .eq 7, 3) := by decide +kernel
theorem dX11_until_38 : decode cX11_until 38 = .ok (.iload_n 3, 1) := by decide +kernel
theorem dX11_until_39 : decode cX11_until 39 = .ok (.goto 4, 3) := by decide +kernel
theorem dX11_until_42 : decode cX11_until 42 = .ok (.iconst (-1), 1) := by decide +kernel
theorem dX11_until_43 : decode cX11_until 43 = .ok (.ireturn, 1) := by decide +kernel
set_option maxRecDepth 100000 in
set_option maxHeartbeats 4000000 in
theorem m_X11_until (l : Launch) (D : va_G) (ct : Nat → ClassId) (S : ty_S) (ws : va_W) (ph : va_W → Prop) (xx : Nat → Nat → Nat → Prop) (mo : Nat) (mw : Nat) (ma : Nat) (mf : Nat) (m0 : Nat) (m1 : Nat) (mu : Nat) (mv : Nat) (u0 : Nat) (u1 : Nat) (iz : Nat) (mb : Nat) (th : Int32) (mn : Int32) (mpt : Int32) (mbg : Int32) (mwr : Int32) (mwk : Int32) (mlf : Int32) (men : Int32) (f : Nat → Int32) (G : Nat → Int32) (p1 : Int32) (p2 : Int32) (sz : Nat) (hT : ty_V ct S ph ws) (h_mu : S mu = some (.inr (1, 42))) (h_mv : S mv = some (.inr (1, 42))) (h_u0 : S u0 = some (.inr (1, 42))) (h_u1 : S u1 = some (.inr (1, 42))) (hph : ty_C ph xx) (hy1 : ty_y1 xx) (hy11 : ty_y0 xx 11) (hR : rf_R G (-1) f) (hc : 0 ≤ p1.toInt ∧ p1.toInt < (G 9).toInt) : Met l yX11_until (ws_ yX11_until cX11_until 4 (some .int)) ({ frames := 8, cells := 0, slots := 0, locals := 186 } : Room) (va_Pc [.ref mo, .int p1, .int p2] (cmP D ct sz ([(rf_MO mo mw ma mf m0 m1 mu mv u0 u1 iz th mb mn mpt mbg mwr mwk mlf men), (rf_RW ct 0 mw 958 f)] ++ ws))) (va_Qi (fun (r : Int32) (u : va_W × Int32 × (Nat → Int32)) => match u with | (u9, men1, f1) => ty_V ct S ph u9 ∧ rf_R G (-1) f1) (cmB D ([(rf_MO mo mw ma mf m0 m1 mu mv u0 u1 iz th mb mn mpt mbg mwr mwk mlf men), (rf_RW ct 0 mw 958 f)] ++ ws) sz (fun (u : va_W × Int32 × (Nat → Int32)) => match u with | (u9, men1, f1) => ([(rf_MO mo mw ma mf m0 m1 mu mv u0 u1 iz th mb mn mpt mbg mwr mwk mlf men1), (rf_RW ct 0 mw 958 f1)] ++ u9))) (va_A ([(rf_MO mo mw ma mf m0 m1 mu mv u0 u1 iz th mb mn mpt mbg mwr mwk mlf men), (rf_RW ct 0 mw 958 f)] ++ ws) sz)) 0 0 (va_A ([(rf_MO mo mw ma mf m0 m1 mu mv u0 u1 iz th mb mn mpt mbg mwr mwk mlf men), (rf_RW ct 0 mw 958 f)] ++ ws) sz) := by
  refine Met.ofW (cc := cX11_until) (maxL := 4) (ret := (some .int)) (by decide) rfl ?_
  intro p e s m args below meth c s₁ B hml hv
  obtain ⟨rfl, hsz, hP, hK, hD0, hX⟩ := hv
  have hx := B.exec
  have hb := B.bytes
  have hr := B.returns
  have hts := ws_all (atoms_spec (ws := ws_ yX11_until cX11_until 4 (some .int)) B.pre)
  have hown : s.vm.findClass RX11 = some m.cls := findClass_of_methodNamed B.named
  have hlocks := B.notSynchronized
  subst hsz
  have hD := hD0.self (sz := s.heap.size)
  generalize hAe : va_A ([(rf_MO mo mw ma mf m0 m1 mu mv u0 u1 iz th mb mn mpt mbg mwr mwk mlf men), (rf_RW ct 0 mw 958 f)] ++ ws) s.heap.size = A at hD hX ⊢
  have hA : ∀ q : Nat, s.heap.size ≤ q → A q := fun q h => by rw [← hAe]; exact Or.inr h
  have hS : va_S A s.heap s.heap [] := va_S.rf
  have hl := lv_entry ([.ref mo, .int p1, .int p2]) (n := 4) (Nat.le_of_ble_eq_true rfl)
  rw [lg_entry_eq]
  generalize (lg_sl ([.ref mo, .int p1, .int p2]) ++ List.replicate (4 - (lg_sl ([.ref mo, .int p1, .int p2])).length) Slot.unset).toArray = ls at hl ⊢
  have hl : lv_has ls 4 [(0, .ref mo), (1, .int p1), (2, .int p2)] := hl
  refine lv_iconst (v := 0) hx hb dX11_until_0 (by decide) ?_
  refine lv_istore_n (lv' := [(3, .int 0), (0, .ref mo), (1, .int p1), (2, .int p2)]) hx hb dX11_until_1 rfl hl (by decide) rfl (fun ls hl => ?_)
  refine ty_loop (I := fun μ H locs ls => ∃ (ws : va_W) (y_1 : Int32) (y_2 : Int32) (f_3 : Nat → Int32), μ = (2147483648 - y_1.toInt).toNat ∧ ty_V ct S ph ws ∧ va_P D vwCl ([(rf_MO mo mw ma mf m0 m1 mu mv u0 u1 iz th mb mn mpt mbg mwr mwk mlf y_2), (rf_RW ct 0 mw 958 f_3)] ++ ws) H ∧ va_D A ([(rf_MO mo mw ma mf m0 m1 mu mv u0 u1 iz th mb mn mpt mbg mwr mwk mlf y_2), (rf_RW ct 0 mw 958 f_3)] ++ ws) ∧ va_S A s.heap H locs ∧ lv_has ls 4 [(0, .ref mo), (1, .int p1), (2, .int p2), (3, .int y_1)] ∧ rf_R G (-1) f_3) ⟨_, ws, (0 : Int32), men, f, rfl, hT, hP, hD, hS, (lv_sub hl [1, 2, 3, 0] rfl), hR⟩ (fun μ H locs ls hI ih_2 => ?_)
  obtain ⟨ws, y_1, y_2, f_3, rfl, hT, hP, hD, hS, hl, hR_2⟩ := hI
  refine lv_aload_n hx hb dX11_until_2 rfl (lv_at hl 0 rfl) ?_
  refine lv_iload_n hx hb dX11_until_3 rfl (lv_at hl 1 rfl) ?_
  refine lv_iconst (v := 1) hx hb dX11_until_4 (by decide) ?_
  refine ty_ki (wr := []) (wc := ([(rf_MO mo mw ma mf m0 m1 mu mv u0 u1 iz th mb mn mpt mbg mwr mwk mlf y_2), (rf_RW ct 0 mw 958 f_3)] ++ ws)) (va_runV (As := [.int p1, .int 1]) (rest := []) ⟨hx, hb, hml, hown, hts⟩ (m_X11_isIn l D ct S ws ph xx mo mw ma mf m0 m1 mu mv u0 u1 iz mb th mn mpt mbg mwr mwk mlf y_2 f_3 G (-1) p1 (1 : Int32) _ hT h_mu h_mv h_u0 h_u1 hph hy1 hR_2 hc) (cm_V 2 hts kc_X11_isIn ki_RX11 kl_RX11_350 kv_X11_isIn kx_X11_isIn kd_X11_isIn ⟨Nat.le_of_ble_eq_true rfl, Nat.le_of_ble_eq_true rfl⟩) (ty_preE (wr := []) (wc := ([(rf_MO mo mw ma mf m0 m1 mu mv u0 u1 iz th mb mn mpt mbg mwr mwk mlf y_2), (rf_RW ct 0 mw 958 f_3)] ++ ws)) (ci := 11) (q0 := 0) hP hK hD hS hA hX rfl rfl) rfl rfl hl.1 rfl (lv_room (Nat.le_of_ble_eq_true rfl)) dX11_until_5 ⟨Nat.le_of_ble_eq_true rfl, Nat.le_of_ble_eq_true rfl⟩) hP hD hS hA (fun r_4 u H locs hw_5 hP hD hS => ?_)
  obtain ⟨ws_6, rfl⟩ : ∃ z, z = u := ⟨_, rfl⟩
  obtain ⟨hT, hp_7⟩ := hw_5
  have hp_7 : ((r_4 = 0 ∧ ¬ rf_of f_3 p1 0 = (1 : Int32)) ∨ (r_4 = 1 ∧ rf_of f_3 p1 0 = (1 : Int32))) := hp_7
  have hP : va_P D vwCl ([(rf_MO mo mw ma mf m0 m1 mu mv u0 u1 iz th mb mn mpt mbg mwr mwk mlf y_2), (rf_RW ct 0 mw 958 f_3)] ++ ws_6) H := hP
  have hD : va_D A ([(rf_MO mo mw ma mf m0 m1 mu mv u0 u1 iz th mb mn mpt mbg mwr mwk mlf y_2), (rf_RW ct 0 mw 958 f_3)] ++ ws_6) := hD
  rcases hp_7 with ⟨rfl, hz_8⟩ | ⟨rfl, hz_9⟩
  · refine lv_if_eq (tgt := 29) hx hb dX11_until_8 (by decide) (fun _ => ?_) (fun hc => absurd (by decide) hc)
    refine lv_aload_n hx hb dX11_until_29 rfl (lv_at hl 0 rfl) ?_
    refine lv_iload_n hx hb dX11_until_30 rfl (lv_at hl 1 rfl) ?_
    refine lv_iload_n hx hb dX11_until_31 rfl (lv_at hl 2 rfl) ?_
    refine ty_ki (wr := []) (wc := ([(rf_MO mo mw ma mf m0 m1 mu mv u0 u1 iz th mb mn mpt mbg mwr mwk mlf y_2), (rf_RW ct 0 mw 958 f_3)] ++ ws_6)) (va_runV (As := [.int p1, .int p2]) (rest := []) ⟨hx, hb, hml, hown, hts⟩ (m_X11_isIn l D ct S ws_6 ph xx mo mw ma mf m0 m1 mu mv u0 u1 iz mb th mn mpt mbg mwr mwk mlf y_2 f_3 G (-1) p1 p2 _ hT h_mu h_mv h_u0 h_u1 hph hy1 hR_2 hc) (cm_V 2 hts kc_X11_isIn ki_RX11 kl_RX11_350 kv_X11_isIn kx_X11_isIn kd_X11_isIn ⟨Nat.le_of_ble_eq_true rfl, Nat.le_of_ble_eq_true rfl⟩) (ty_preE (wr := []) (wc := ([(rf_MO mo mw ma mf m0 m1 mu mv u0 u1 iz th mb mn mpt mbg mwr mwk mlf y_2), (rf_RW ct 0 mw 958 f_3)] ++ ws_6)) (ci := 11) (q0 := 0) hP hK hD hS hA hX rfl rfl) rfl rfl hl.1 rfl (lv_room (Nat.le_of_ble_eq_true rfl)) dX11_until_32 ⟨Nat.le_of_ble_eq_true rfl, Nat.le_of_ble_eq_true rfl⟩) hP hD hS hA (fun r_10 u H locs hw_11 hP hD hS => ?_)
    obtain ⟨ws_12, rfl⟩ : ∃ z, z = u := ⟨_, rfl⟩
    obtain ⟨hT, hp_13⟩ := hw_11
    have hp_13 : ((r_10 = 0 ∧ ¬ rf_of f_3 p1 0 = p2) ∨ (r_10 = 1 ∧ rf_of f_3 p1 0 = p2)) := hp_13
    have hP : va_P D vwCl ([(rf_MO mo mw ma mf m0 m1 mu mv u0 u1 iz th mb mn mpt mbg mwr mwk mlf y_2), (rf_RW ct 0 mw 958 f_3)] ++ ws_12) H := hP
    have hD : va_D A ([(rf_MO mo mw ma mf m0 m1 mu mv u0 u1 iz th mb mn mpt mbg mwr mwk mlf y_2), (rf_RW ct 0 mw 958 f_3)] ++ ws_12) := hD
    rcases hp_13 with ⟨rfl, hz_14⟩ | ⟨rfl, hz_15⟩
    · refine lv_if_eq (tgt := 42) hx hb dX11_until_35 (by decide) (fun _ => ?_) (fun hc => absurd (by decide) hc)
      refine lv_iconst (v := (-1)) hx hb dX11_until_42 (by decide) ?_
      exact W.iret (v := (-1)) hx hb hr (fun t ht hW => ⟨⟨(-1), (ws_12, y_2, f_3), rfl, ⟨hT, hR_2⟩, by rw [ht]; exact hP, by rw [hAe]; exact hD⟩, hS.F ht⟩) hS.2.2 dX11_until_43
    · refine lv_if_eq (tgt := 42) hx hb dX11_until_35 (by decide) (fun hc => absurd hc (by decide)) (fun _ => ?_)
      refine lv_iload_n hx hb dX11_until_38 rfl (lv_at hl 3 rfl) ?_
      refine lv_goto (tgt := 43) hx hb dX11_until_39 (by decide) ?_
      exact W.iret (v := y_1) hx hb hr (fun t ht hW => ⟨⟨y_1, (ws_12, y_2, f_3), rfl, ⟨hT, hR_2⟩, by rw [ht]; exact hP, by rw [hAe]; exact hD⟩, hS.F ht⟩) hS.2.2 dX11_until_43
  · refine lv_if_eq (tgt := 29) hx hb dX11_until_8 (by decide) (fun hc => absurd hc (by decide)) (fun _ => ?_)
    refine lv_iload_n hx hb dX11_until_11 rfl (lv_at hl 3 rfl) ?_
    refine lv_sipush (v := 30000) hx hb dX11_until_12 (by decide) ?_
    refine lv_icmp_ge (tgt := 29) hx hb dX11_until_15 (by decide) (fun hc_16 => ?_) (fun hc_16 => ?_)
    · refine lv_aload_n hx hb dX11_until_29 rfl (lv_at hl 0 rfl) ?_
      refine lv_iload_n hx hb dX11_until_30 rfl (lv_at hl 1 rfl) ?_
      refine lv_iload_n hx hb dX11_until_31 rfl (lv_at hl 2 rfl) ?_
      refine ty_ki (wr := []) (wc := ([(rf_MO mo mw ma mf m0 m1 mu mv u0 u1 iz th mb mn mpt mbg mwr mwk mlf y_2), (rf_RW ct 0 mw 958 f_3)] ++ ws_6)) (va_runV (As := [.int p1, .int p2]) (rest := []) ⟨hx, hb, hml, hown, hts⟩ (m_X11_isIn l D ct S ws_6 ph xx mo mw ma mf m0 m1 mu mv u0 u1 iz mb th mn mpt mbg mwr mwk mlf y_2 f_3 G (-1) p1 p2 _ hT h_mu h_mv h_u0 h_u1 hph hy1 hR_2 hc) (cm_V 2 hts kc_X11_isIn ki_RX11 kl_RX11_350 kv_X11_isIn kx_X11_isIn kd_X11_isIn ⟨Nat.le_of_ble_eq_true rfl, Nat.le_of_ble_eq_true rfl⟩) (ty_preE (wr := []) (wc := ([(rf_MO mo mw ma mf m0 m1 mu mv u0 u1 iz th mb mn mpt mbg mwr mwk mlf y_2), (rf_RW ct 0 mw 958 f_3)] ++ ws_6)) (ci := 11) (q0 := 0) hP hK hD hS hA hX rfl rfl) rfl rfl hl.1 rfl (lv_room (Nat.le_of_ble_eq_true rfl)) dX11_until_32 ⟨Nat.le_of_ble_eq_true rfl, Nat.le_of_ble_eq_true rfl⟩) hP hD hS hA (fun r_17 u H locs hw_18 hP hD hS => ?_)
      obtain ⟨ws_19, rfl⟩ : ∃ z, z = u := ⟨_, rfl⟩
      obtain ⟨hT, hp_20⟩ := hw_18
      have hp_20 : ((r_17 = 0 ∧ ¬ rf_of f_3 p1 0 = p2) ∨ (r_17 = 1 ∧ rf_of f_3 p1 0 = p2)) := hp_20
      have hP : va_P D vwCl ([(rf_MO mo mw ma mf m0 m1 mu mv u0 u1 iz th mb mn mpt mbg mwr mwk mlf y_2), (rf_RW ct 0 mw 958 f_3)] ++ ws_19) H := hP
      have hD : va_D A ([(rf_MO mo mw ma mf m0 m1 mu mv u0 u1 iz th mb mn mpt mbg mwr mwk mlf y_2), (rf_RW ct 0 mw 958 f_3)] ++ ws_19) := hD
      rcases hp_20 with ⟨rfl, hz_21⟩ | ⟨rfl, hz_22⟩
      · refine lv_if_eq (tgt := 42) hx hb dX11_until_35 (by decide) (fun _ => ?_) (fun hc => absurd (by decide) hc)
        refine lv_iconst (v := (-1)) hx hb dX11_until_42 (by decide) ?_
        exact W.iret (v := (-1)) hx hb hr (fun t ht hW => ⟨⟨(-1), (ws_19, y_2, f_3), rfl, ⟨hT, hR_2⟩, by rw [ht]; exact hP, by rw [hAe]; exact hD⟩, hS.F ht⟩) hS.2.2 dX11_until_43
      · refine lv_if_eq (tgt := 42) hx hb dX11_until_35 (by decide) (fun hc => absurd hc (by decide)) (fun _ => ?_)
        refine lv_iload_n hx hb dX11_until_38 rfl (lv_at hl 3 rfl) ?_
        refine lv_goto (tgt := 43) hx hb dX11_until_39 (by decide) ?_
        exact W.iret (v := y_1) hx hb hr (fun t ht hW => ⟨⟨y_1, (ws_19, y_2, f_3), rfl, ⟨hT, hR_2⟩, by rw [ht]; exact hP, by rw [hAe]; exact hD⟩, hS.F ht⟩) hS.2.2 dX11_until_43
    · refine lv_aload_n hx hb dX11_until_18 rfl (lv_at hl 0 rfl) ?_
      refine lv_iload_n hx hb dX11_until_19 rfl (lv_at hl 1 rfl) ?_
      refine ty_kv (wr := []) (wc := ([(rf_MO mo mw ma mf m0 m1 mu mv u0 u1 iz th mb mn mpt mbg mwr mwk mlf y_2), (rf_RW ct 0 mw 958 f_3)] ++ ws_6)) (va_runV (As := [.int p1]) (rest := []) ⟨hx, hb, hml, hown, hts⟩ (m_X11_alone l D ct S ws_6 ph xx mo mw ma mf m0 m1 mu mv u0 u1 iz mb th mn mpt mbg mwr mwk mlf y_2 f_3 G p1 _ hT h_mu h_mv h_u0 h_u1 hph hy1 hy11 hR_2 hc) (cm_V 1 hts kc_X11_alone ki_RX11 kl_RX11_382 kv_X11_alone kx_X11_alone kd_X11_alone ⟨Nat.le_of_ble_eq_true rfl, Nat.le_of_ble_eq_true rfl⟩) (ty_preE (wr := []) (wc := ([(rf_MO mo mw ma mf m0 m1 mu mv u0 u1 iz th mb mn mpt mbg mwr mwk mlf y_2), (rf_RW ct 0 mw 958 f_3)] ++ ws_6)) (ci := 11) (q0 := 0) hP hK hD hS hA hX rfl rfl) rfl rfl hl.1 rfl (lv_room (Nat.le_of_ble_eq_true rfl)) dX11_until_20 ⟨Nat.le_of_ble_eq_true rfl, Nat.le_of_ble_eq_true rfl⟩) hP hD hS hA (fun u H locs hw_24 hP hD hS => ?_)
      obtain ⟨ws_25, men1_26, f1_27⟩ := u
      obtain ⟨hT, hp_28⟩ := hw_24
      have hp_28 : rf_d ((f_3 8) + 1) f_3 f1_27 ∧ rf_R G (-1) f1_27 := hp_28
      obtain ⟨hd_29, hq_30⟩ := hp_28
      have hR_31 := hq_30
      have hP : va_P D vwCl ([(rf_MO mo mw ma mf m0 m1 mu mv u0 u1 iz th mb mn mpt mbg mwr mwk mlf men1_26), (rf_RW ct 0 mw 958 f1_27)] ++ ws_25) H := hP
      have hD : va_D A ([(rf_MO mo mw ma mf m0 m1 mu mv u0 u1 iz th mb mn mpt mbg mwr mwk mlf men1_26), (rf_RW ct 0 mw 958 f1_27)] ++ ws_25) := hD
      refine lv_iinc (v := (y_1 + Int32.ofInt 1)) (lv' := [(3, .int (y_1 + Int32.ofInt 1)), (0, .ref mo), (1, .int p1), (2, .int p2)]) hx hb dX11_until_23 hl (k := 3) rfl rfl (by decide) rfl (fun ls hl => ?_)
      refine lv_goto (tgt := 2) hx hb dX11_until_26 (by decide) ?_
      exact ih_2 _ _ _ _ (ty_inc (cm_lt hc_16)) ⟨ws_25, (y_1 + Int32.ofInt 1), men1_26, f1_27, rfl, hT, hP, hD, hS, (lv_sub hl [1, 2, 3, 0] rfl), hR_31⟩
theorem dX11_untilAside_0 : decode cX11_untilAside 0 = .ok (.aload_n 0, 1) := by decide +kernel
theorem dX11_untilAside_1 : decode cX11_untilAside 1 = .ok (.invokevirtual 379, 3) := by decide +kernel
theorem dX11_untilAside_4 : decode cX11_untilAside 4 = .ok (.aload_n 0, 1) := by decide +kernel
theorem dX11_untilAside_5 : decode cX11_untilAside 5 = .ok (.iload_n 1, 1) := by decide +kernel
theorem dX11_untilAside_6 : decode cX11_untilAside 6 = .ok (.iload_n 2, 1) := by decide +kernel
theorem dX11_untilAside_7 : decode cX11_untilAside 7 = .ok (.invokevirtual 388, 3) := by decide +kernel
theorem dX11_untilAside_10 : decode cX11_untilAside 10 = .ok (.istore_n 3, 1) := by decide +kernel
theorem dX11_untilAside_11 : decode cX11_untilAside 11 = .ok (.aload_n 0, 1) := by decide +kernel
theorem dX11_untilAside_12 : decode cX11_untilAside 12 = .ok (.invokevirtual 385, 3) := by decide +kernel
theorem dX11_untilAside_15 : decode cX11_untilAside 15 = .ok (.iload_n 3, 1) := by decide +kernel
theorem dX11_untilAside_16 : decode cX11_untilAside 16 = .ok (.ireturn, 1) := by decide +kernel
set_option maxRecDepth 100000 in
set_option maxHeartbeats 4000000 in
theorem m_X11_untilAside (l : Launch) (D : va_G) (ct : Nat → ClassId) (S : ty_S) (ws : va_W) (ph : va_W → Prop) (xx : Nat → Nat → Nat → Prop) (mo : Nat) (mw : Nat) (ma : Nat) (mf : Nat) (m0 : Nat) (m1 : Nat) (mu : Nat) (mv : Nat) (u0 : Nat) (u1 : Nat) (iz : Nat) (mb : Nat) (th : Int32) (mn : Int32) (mpt : Int32) (mbg : Int32) (mwr : Int32) (mwk : Int32) (mlf : Int32) (men : Int32) (f : Nat → Int32) (G : Nat → Int32) (fa : Nat → Int32) (p1 : Int32) (p2 : Int32) (sz : Nat) (hT : ty_V ct S ph ws) (h_mu : S mu = some (.inr (1, 42))) (h_mv : S mv = some (.inr (1, 42))) (h_u0 : S u0 = some (.inr (1, 42))) (h_u1 : S u1 = some (.inr (1, 42))) (hph : ty_C ph xx) (hy1 : ty_y1 xx) (hy11 : ty_y0 xx 11) (hR : rf_R G (-1) f) (hc : 0 ≤ p1.toInt ∧ p1.toInt < (G 9).toInt) : Met l yX11_untilAside (ws_ yX11_untilAside cX11_untilAside 4 (some .int)) ({ frames := 9, cells := 0, slots := 0, locals := 209 } : Room) (va_Pc [.ref mo, .int p1, .int p2] (cmP D ct sz ([(rf_MO mo mw ma mf m0 m1 mu mv u0 u1 iz th mb mn mpt mbg mwr mwk mlf men), (rf_RW ct 0 mw 958 f), (rf_RW ct 0 ma 958 fa)] ++ ws))) (va_Qi (fun (r : Int32) (u : va_W × Int32 × (Nat → Int32) × (Nat → Int32)) => match u with | (u9, men1, f1, fa1) => ty_V ct S ph u9 ∧ rf_d (f 8) f f1 ∧ rf_R G (-1) f1) (cmB D ([(rf_MO mo mw ma mf m0 m1 mu mv u0 u1 iz th mb mn mpt mbg mwr mwk mlf men), (rf_RW ct 0 mw 958 f), (rf_RW ct 0 ma 958 fa)] ++ ws) sz (fun (u : va_W × Int32 × (Nat → Int32) × (Nat → Int32)) => match u with | (u9, men1, f1, fa1) => ([(rf_MO mo mw ma mf m0 m1 mu mv u0 u1 iz th mb mn mpt mbg mwr mwk mlf men1), (rf_RW ct 0 mw 958 f1), (rf_RW ct 0 ma 958 fa1)] ++ u9))) (va_A ([(rf_MO mo mw ma mf m0 m1 mu mv u0 u1 iz th mb mn mpt mbg mwr mwk mlf men), (rf_RW ct 0 mw 958 f), (rf_RW ct 0 ma 958 fa)] ++ ws) sz)) 0 0 (va_A ([(rf_MO mo mw ma mf m0 m1 mu mv u0 u1 iz th mb mn mpt mbg mwr mwk mlf men), (rf_RW ct 0 mw 958 f), (rf_RW ct 0 ma 958 fa)] ++ ws) sz) := by
  refine Met.ofW (cc := cX11_untilAside) (maxL := 4) (ret := (some .int)) (by decide) rfl ?_
  intro p e s m args below meth c s₁ B hml hv
  obtain ⟨rfl, hsz, hP, hK, hD0, hX⟩ := hv
  have hx := B.exec
  have hb := B.bytes
  have hr := B.returns
  have hts := ws_all (atoms_spec (ws := ws_ yX11_untilAside cX11_untilAside 4 (some .int)) B.pre)
  have hown : s.vm.findClass RX11 = some m.cls := findClass_of_methodNamed B.named
  have hlocks := B.notSynchronized
  subst hsz
  have hD := hD0.self (sz := s.heap.size)
  generalize hAe : va_A ([(rf_MO mo mw ma mf m0 m1 mu mv u0 u1 iz th mb mn mpt mbg mwr mwk mlf men), (rf_RW ct 0 mw 958 f), (rf_RW ct 0 ma 958 fa)] ++ ws) s.heap.size = A at hD hX ⊢
  have hA : ∀ q : Nat, s.heap.size ≤ q → A q := fun q h => by rw [← hAe]; exact Or.inr h
  have hS : va_S A s.heap s.heap [] := va_S.rf
  have hl := lv_entry ([.ref mo, .int p1, .int p2]) (n := 4) (Nat.le_of_ble_eq_true rfl)
  rw [lg_entry_eq]
  generalize (lg_sl ([.ref mo, .int p1, .int p2]) ++ List.replicate (4 - (lg_sl ([.ref mo, .int p1, .int p2])).length) Slot.unset).toArray = ls at hl ⊢
  have hl : lv_has ls 4 [(0, .ref mo), (1, .int p1), (2, .int p2)] := hl
  refine lv_aload_n hx hb dX11_untilAside_0 rfl (lv_at hl 0 rfl) ?_
  refine ty_kv (wr := []) (wc := ([(rf_MO mo mw ma mf m0 m1 mu mv u0 u1 iz th mb mn mpt mbg mwr mwk mlf men), (rf_RW ct 0 mw 958 f), (rf_RW ct 0 ma 958 fa)] ++ ws)) (va_runV (As := []) (rest := []) ⟨hx, hb, hml, hown, hts⟩ (m_X11_goesAside l D ct S ws ph xx mo mw ma mf m0 m1 mu mv u0 u1 iz mb th mn mpt mbg mwr mwk mlf men f G fa _ hT h_mu h_mv h_u0 h_u1 hph hy1 hy11 hR) (cm_V 0 hts kc_X11_goesAside ki_RX11 kl_RX11_379 kv_X11_goesAside kx_X11_goesAside kd_X11_goesAside ⟨Nat.le_of_ble_eq_true rfl, Nat.le_of_ble_eq_true rfl⟩) (ty_preE (wr := []) (wc := ([(rf_MO mo mw ma mf m0 m1 mu mv u0 u1 iz th mb mn mpt mbg mwr mwk mlf men), (rf_RW ct 0 mw 958 f), (rf_RW ct 0 ma 958 fa)] ++ ws)) (ci := 11) (q0 := 0) hP hK hD hS hA hX rfl rfl) rfl rfl hl.1 rfl (lv_room (Nat.le_of_ble_eq_true rfl)) dX11_untilAside_1 ⟨Nat.le_of_ble_eq_true rfl, Nat.le_of_ble_eq_true rfl⟩) hP hD hS hA (fun u H locs hw_2 hP hD hS => ?_)
  obtain ⟨ws_3, fa1_4⟩ := u
  obtain ⟨hT, hp_5⟩ := hw_2
  have hp_5 : rf_R G (-1) fa1_4 ∧ fa1_4 8 = f 8 := hp_5
  have hP : va_P D vwCl ([(rf_MO mo mw ma mf m0 m1 mu mv u0 u1 iz th mb mn mpt mbg mwr mwk mlf (0)), (rf_RW ct 0 mw 958 f), (rf_RW ct 0 ma 958 fa1_4)] ++ ws_3) H := hP
  have hD : va_D A ([(rf_MO mo mw ma mf m0 m1 mu mv u0 u1 iz th mb mn mpt mbg mwr mwk mlf (0)), (rf_RW ct 0 mw 958 f), (rf_RW ct 0 ma 958 fa1_4)] ++ ws_3) := hD
  refine lv_aload_n hx hb dX11_untilAside_4 rfl (lv_at hl 0 rfl) ?_
  refine lv_iload_n hx hb dX11_untilAside_5 rfl (lv_at hl 1 rfl) ?_
  refine lv_iload_n hx hb dX11_untilAside_6 rfl (lv_at hl 2 rfl) ?_
  have hP : va_P D vwCl ([(rf_RW ct 0 ma 958 fa1_4), (rf_MO mo mw ma mf m0 m1 mu mv u0 u1 iz th mb mn mpt mbg mwr mwk mlf (0)), (rf_RW ct 0 mw 958 f)] ++ ws_3) H := ty_permP hP (ty_ordp (E := [(rf_MO mo mw ma mf m0 m1 mu mv u0 u1 iz th mb mn mpt mbg mwr mwk mlf (0)), (rf_RW ct 0 mw 958 f), (rf_RW ct 0 ma 958 fa1_4)]) (E2 := [(rf_RW ct 0 ma 958 fa1_4), (rf_MO mo mw ma mf m0 m1 mu mv u0 u1 iz th mb mn mpt mbg mwr mwk mlf (0)), (rf_RW ct 0 mw 958 f)]) (n := 3) [2, 0, 1] rfl rfl (by decide))
  have hD : va_D A ([(rf_RW ct 0 ma 958 fa1_4), (rf_MO mo mw ma mf m0 m1 mu mv u0 u1 iz th mb mn mpt mbg mwr mwk mlf (0)), (rf_RW ct 0 mw 958 f)] ++ ws_3) := ty_permD hD (ty_ordp (E := [(rf_MO mo mw ma mf m0 m1 mu mv u0 u1 iz th mb mn mpt mbg mwr mwk mlf (0)), (rf_RW ct 0 mw 958 f), (rf_RW ct 0 ma 958 fa1_4)]) (E2 := [(rf_RW ct 0 ma 958 fa1_4), (rf_MO mo mw ma mf m0 m1 mu mv u0 u1 iz th mb mn mpt mbg mwr mwk mlf (0)), (rf_RW ct 0 mw 958 f)]) (n := 3) [2, 0, 1] rfl rfl (by decide))
  refine ty_ki (wr := [(rf_RW ct 0 ma 958 fa1_4)]) (wc := ([(rf_MO mo mw ma mf m0 m1 mu mv u0 u1 iz th mb mn mpt mbg mwr mwk mlf (0)), (rf_RW ct 0 mw 958 f)] ++ ws_3)) (va_runV (As := [.int p1, .int p2]) (rest := []) ⟨hx, hb, hml, hown, hts⟩ (m_X11_until l D ct S ws_3 ph xx mo mw ma mf m0 m1 mu mv u0 u1 iz mb th mn mpt mbg mwr mwk mlf (0 : Int32) f G p1 p2 _ hT h_mu h_mv h_u0 h_u1 hph hy1 hy11 hR hc) (cm_V 2 hts kc_X11_until ki_RX11 kl_RX11_388 kv_X11_until kx_X11_until kd_X11_until ⟨Nat.le_of_ble_eq_true rfl, Nat.le_of_ble_eq_true rfl⟩) (ty_preE (wr := [(rf_RW ct 0 ma 958 fa1_4)]) (wc := ([(rf_MO mo mw ma mf m0 m1 mu mv u0 u1 iz th mb mn mpt mbg mwr mwk mlf (0)), (rf_RW ct 0 mw 958 f)] ++ ws_3)) (ci := 11) (q0 := 1) hP hK hD hS hA hX rfl rfl) rfl rfl hl.1 rfl (lv_room (Nat.le_of_ble_eq_true rfl)) dX11_untilAside_7 ⟨Nat.le_of_ble_eq_true rfl, Nat.le_of_ble_eq_true rfl⟩) hP hD hS hA (fun r_6 u H locs hw_7 hP hD hS => ?_)
  obtain ⟨ws_8, men1_9, f1_10⟩ := u
  obtain ⟨hT, hp_11⟩ := hw_7
  have hp_11 : rf_R G (-1) f1_10 := hp_11
  have hR_12 := hp_11
  have hP : va_P D vwCl ([(rf_RW ct 0 ma 958 fa1_4), (rf_MO mo mw ma mf m0 m1 mu mv u0 u1 iz th mb mn mpt mbg mwr mwk mlf men1_9), (rf_RW ct 0 mw 958 f1_10)] ++ ws_8) H := hP
  have hD : va_D A ([(rf_RW ct 0 ma 958 fa1_4), (rf_MO mo mw ma mf m0 m1 mu mv u0 u1 iz th mb mn mpt mbg mwr mwk mlf men1_9), (rf_RW ct 0 mw 958 f1_10)] ++ ws_8) := hD
  refine lv_istore_n (lv' := [(3, .int r_6), (0, .ref mo), (1, .int p1), (2, .int p2)]) hx hb dX11_untilAside_10 rfl hl (by decide) rfl (fun ls hl => ?_)
  refine lv_aload_n hx hb dX11_untilAside_11 rfl (lv_at hl 1 rfl) ?_
  have hP : va_P D vwCl ([(rf_MO mo mw ma mf m0 m1 mu mv u0 u1 iz th mb mn mpt mbg mwr mwk mlf men1_9), (rf_RW ct 0 mw 958 f1_10), (rf_RW ct 0 ma 958 fa1_4)] ++ ws_8) H := ty_permP hP (ty_ordp (E := [(rf_RW ct 0 ma 958 fa1_4), (rf_MO mo mw ma mf m0 m1 mu mv u0 u1 iz th mb mn mpt mbg mwr mwk mlf men1_9), (rf_RW ct 0 mw 958 f1_10)]) (E2 := [(rf_MO mo mw ma mf m0 m1 mu mv u0 u1 iz th mb mn mpt mbg mwr mwk mlf men1_9), (rf_RW ct 0 mw 958 f1_10), (rf_RW ct 0 ma 958 fa1_4)]) (n := 3) [1, 2, 0] rfl rfl (by decide))
  have hD : va_D A ([(rf_MO mo mw ma mf m0 m1 mu mv u0 u1 iz th mb mn mpt mbg mwr mwk mlf men1_9), (rf_RW ct 0 mw 958 f1_10), (rf_RW ct 0 ma 958 fa1_4)] ++ ws_8) := ty_permD hD (ty_ordp (E := [(rf_RW ct 0 ma 958 fa1_4), (rf_MO mo mw ma mf m0 m1 mu mv u0 u1 iz th mb mn mpt mbg mwr mwk mlf men1_9), (rf_RW ct 0 mw 958 f1_10)]) (E2 := [(rf_MO mo mw ma mf m0 m1 mu mv u0 u1 iz th mb mn mpt mbg mwr mwk mlf men1_9), (rf_RW ct 0 mw 958 f1_10), (rf_RW ct 0 ma 958 fa1_4)]) (n := 3) [1, 2, 0] rfl rfl (by decide))
  refine ty_kv (wr := []) (wc := ([(rf_MO mo mw ma mf m0 m1 mu mv u0 u1 iz th mb mn mpt mbg mwr mwk mlf men1_9), (rf_RW ct 0 mw 958 f1_10), (rf_RW ct 0 ma 958 fa1_4)] ++ ws_8)) (va_runV (As := []) (rest := []) ⟨hx, hb, hml, hown, hts⟩ (m_X11_comesBack l D ct S ws_8 ph xx mo mw ma mf m0 m1 mu mv u0 u1 iz mb th mn mpt mbg mwr mwk mlf men1_9 f1_10 G fa1_4 _ hT h_mu h_mv h_u0 h_u1 hph hy1 hy11 hp_5.1) (cm_V 0 hts kc_X11_comesBack ki_RX11 kl_RX11_385 kv_X11_comesBack kx_X11_comesBack kd_X11_comesBack ⟨Nat.le_of_ble_eq_true rfl, Nat.le_of_ble_eq_true rfl⟩) (ty_preE (wr := []) (wc := ([(rf_MO mo mw ma mf m0 m1 mu mv u0 u1 iz th mb mn mpt mbg mwr mwk mlf men1_9), (rf_RW ct 0 mw 958 f1_10), (rf_RW ct 0 ma 958 fa1_4)] ++ ws_8)) (ci := 11) (q0 := 0) hP hK hD hS hA hX rfl rfl) rfl rfl hl.1 rfl (lv_room (Nat.le_of_ble_eq_true rfl)) dX11_untilAside_12 ⟨Nat.le_of_ble_eq_true rfl, Nat.le_of_ble_eq_true rfl⟩) hP hD hS hA (fun u H locs hw_15 hP hD hS => ?_)
  obtain ⟨ws_16, f1_17⟩ := u
  obtain ⟨hT, hp_18⟩ := hw_15
  have hp_18 : rf_R G (-1) f1_17 ∧ f1_17 8 = fa1_4 8 := hp_18
  have hR_19 := hp_18.1
  have hP : va_P D vwCl ([(rf_MO mo mw ma mf m0 m1 mu mv u0 u1 iz th mb mn mpt mbg mwr mwk mlf men1_9), (rf_RW ct 0 mw 958 f1_17), (rf_RW ct 0 ma 958 fa1_4)] ++ ws_16) H := hP
  have hD : va_D A ([(rf_MO mo mw ma mf m0 m1 mu mv u0 u1 iz th mb mn mpt mbg mwr mwk mlf men1_9), (rf_RW ct 0 mw 958 f1_17), (rf_RW ct 0 ma 958 fa1_4)] ++ ws_16) := hD
  have hD_21 := rf_dg (rf_dr f) hp_5.2 hp_18.2
  refine lv_iload_n hx hb dX11_untilAside_15 rfl (lv_at hl 0 rfl) ?_
  exact W.iret (v := r_6) hx hb hr (fun t ht hW => ⟨⟨r_6, (ws_16, men1_9, f1_17, fa1_4), rfl, ⟨hT, ⟨hD_21, hR_19⟩⟩, by rw [ht]; exact hP, by rw [hAe]; exact hD⟩, hS.F ht⟩) hS.2.2 dX11_untilAside_16
theorem dX11_doneIn_0 : decode cX11_doneIn 0 = .ok (.aload_n 0, 1) := by decide +kernel
theorem dX11_doneIn_1 : decode cX11_doneIn 1 = .ok (.iload_n 1, 1) := by decide +kernel
theorem dX11_doneIn_2 : decode cX11_doneIn 2 = .ok (.invokevirtual 344, 3) := by decide +kernel
theorem dX11_doneIn_5 : decode cX11_doneIn 5 = .ok (.ifCond .eq 5, 3) := by decide +kernel
theorem dX11_doneIn_8 : decode cX11_doneIn 8 = .ok (.iconst 0, 1) := by decide +kernel
theorem dX11_doneIn_9 : decode cX11_doneIn 9 = .ok (.ireturn, 1) := by decide +kernel
theorem dX11_doneIn_10 : decode cX11_doneIn 10 = .ok (.aload_n 0, 1) := by decide +kernel
theorem dX11_doneIn_11 : decode cX11_doneIn 11 = .ok (.iload_n 1, 1) := by decide +kernel
theorem dX11_doneIn_12 : decode cX11_doneIn 12 = .ok (.iconst 3, 1) := by decide +kernel
theorem dX11_doneIn_13 : decode cX11_doneIn 13 = .ok (.invokevirtual 350, 3) := by decide +kernel
theorem dX11_doneIn_16 : decode cX11_doneIn 16 = .ok (.ifCond .eq 7, 3) := by decide +kernel
theorem dX11_doneIn_19 : decode cX11_doneIn 19 = .ok (.iconst 0, 1) := by decide +kernel
theorem dX11_doneIn_20 : decode cX11_doneIn 20 = .ok (.goto 22, 3) := by decide +kernel
theorem dX11_doneIn_23 : decode cX11_doneIn 23 = .ok (.aload_n 0, 1) := by decide +kernel
theorem dX11_doneIn_24 : decode cX11_doneIn 24 = .ok (.iload_n 1, 1) := by decide +kernel
theorem dX11_doneIn_25 : decode cX11_doneIn 25 = .ok (.iconst 1, 1) := by decide +kernel
theorem dX11_doneIn_26 : decode cX11_doneIn 26 = .ok (.invokevirtual 350, 3) := by decide +kernel
theorem dX11_doneIn_29 : decode cX11_doneIn 29 = .ok (.ifCond .eq 12, 3) := by decide +kernel
theorem dX11_doneIn_32 : decode cX11_doneIn 32 = .ok (.aload_n 0, 1) := by decide +kernel
theorem dX11_doneIn_33 : decode cX11_doneIn 33 = .ok (.iload_n 1, 1) := by decide +kernel
theorem dX11_doneIn_34 : decode cX11_doneIn 34 = .ok (.iconst 3, 1) := by decide +kernel
theorem dX11_doneIn_35 : decode cX11_doneIn 35 = .ok (.invokevirtual 391, 3) := by decide +kernel
theorem dX11_doneIn_38 : decode cX11_doneIn 38 = .ok (.goto 4, 3) := by decide +kernel
theorem dX11_doneIn_41 : decode cX11_doneIn 41 = .ok (.iconst (-1), 1) := by decide +kernel
theorem dX11_doneIn_42 : decode cX11_doneIn 42 = .ok (.ireturn, 1) := by decide +kernel
set_option maxRecDepth 100000 in
set_option maxHeartbeats 4000000 in
theorem m_X11_doneIn (l : Launch) (D : va_G) (ct : Nat → ClassId) (S : ty_S) (ws : va_W) (ph : va_W → Prop) (xx : Nat → Nat → Nat → Prop) (mo : Nat) (mw : Nat) (ma : Nat) (mf : Nat) (m0 : Nat) (m1 : Nat) (mu : Nat) (mv : Nat) (u0 : Nat) (u1 : Nat) (iz : Nat) (mb : Nat) (th : Int32) (mn : Int32) (mpt : Int32) (mbg : Int32) (mwr : Int32) (mwk : Int32) (mlf : Int32) (men : Int32) (f : Nat → Int32) (G : Nat → Int32) (fa : Nat → Int32) (p1 : Int32) (sz : Nat) (hT : ty_V ct S ph ws) (h_mu : S mu = some (.inr (1, 42))) (h_mv : S mv = some (.inr (1, 42))) (h_u0 : S u0 = some (.inr (1, 42))) (h_u1 : S u1 = some (.inr (1, 42))) (hph : ty_C ph xx) (hy1 : ty_y1 xx) (hy11 : ty_y0 xx 11) (hR : rf_R G (-1) f) : Met l yX11_doneIn (ws_ yX11_doneIn cX11_doneIn 2 (some .int)) ({ frames := 10, cells := 0, slots := 0, locals := 232 } : Room) (va_Pc [.ref mo, .int p1] (cmP D ct sz ([(rf_MO mo mw ma mf m0 m1 mu mv u0 u1 iz th mb mn mpt mbg mwr mwk mlf men), (rf_RW ct 0 mw 958 f), (rf_RW ct 0 ma 958 fa)] ++ ws))) (va_Qi (fun (r : Int32) (u : va_W × Int32 × Int32 × (Nat → Int32) × (Nat → Int32)) => match u with | (u9, men1, th1, f1, fa1) => ty_V ct S ph u9 ∧ rf_d (f 8) f f1 ∧ rf_R G (-1) f1) (cmB D ([(rf_MO mo mw ma mf m0 m1 mu mv u0 u1 iz th mb mn mpt mbg mwr mwk mlf men), (rf_RW ct 0 mw 958 f), (rf_RW ct 0 ma 958 fa)] ++ ws) sz (fun (u : va_W × Int32 × Int32 × (Nat → Int32) × (Nat → Int32)) => match u with | (u9, men1, th1, f1, fa1) => ([(rf_MO mo mw ma mf m0 m1 mu mv u0 u1 iz th1 mb mn mpt mbg mwr mwk mlf men1), (rf_RW ct 0 mw 958 f1), (rf_RW ct 0 ma 958 fa1)] ++ u9))) (va_A ([(rf_MO mo mw ma mf m0 m1 mu mv u0 u1 iz th mb mn mpt mbg mwr mwk mlf men), (rf_RW ct 0 mw 958 f), (rf_RW ct 0 ma 958 fa)] ++ ws) sz)) 0 0 (va_A ([(rf_MO mo mw ma mf m0 m1 mu mv u0 u1 iz th mb mn mpt mbg mwr mwk mlf men), (rf_RW ct 0 mw 958 f), (rf_RW ct 0 ma 958 fa)] ++ ws) sz) := by
  refine Met.ofW (cc := cX11_doneIn) (maxL := 2) (ret := (some .int)) (by decide) rfl ?_
  intro p e s m args below meth c s₁ B hml hv
  obtain ⟨rfl, hsz, hP, hK, hD0, hX⟩ := hv
  have hx := B.exec
  have hb := B.bytes
  have hr := B.returns
  have hts := ws_all (atoms_spec (ws := ws_ yX11_doneIn cX11_doneIn 2 (some .int)) B.pre)
  have hown : s.vm.findClass RX11 = some m.cls := findClass_of_methodNamed B.named
  have hlocks := B.notSynchronized
  subst hsz
  have hD := hD0.self (sz := s.heap.size)
  generalize hAe : va_A ([(rf_MO mo mw ma mf m0 m1 mu mv u0 u1 iz th mb mn mpt mbg mwr mwk mlf men), (rf_RW ct 0 mw 958 f), (rf_RW ct 0 ma 958 fa)] ++ ws) s.heap.size = A at hD hX ⊢
  have hA : ∀ q : Nat, s.heap.size ≤ q → A q := fun q h => by rw [← hAe]; exact Or.inr h
  have hS : va_S A s.heap s.heap [] := va_S.rf
  have hl := lv_entry ([.ref mo, .int p1]) (n := 2) (Nat.le_of_ble_eq_true rfl)
  rw [lg_entry_eq]
  generalize (lg_sl ([.ref mo, .int p1]) ++ List.replicate (2 - (lg_sl ([.ref mo, .int p1])).length) Slot.unset).toArray = ls at hl ⊢
  have hl : lv_has ls 2 [(0, .ref mo), (1, .int p1)] := hl
  refine lv_aload_n hx hb dX11_doneIn_0 rfl (lv_at hl 0 rfl) ?_
  refine lv_iload_n hx hb dX11_doneIn_1 rfl (lv_at hl 1 rfl) ?_
  have hP : va_P D vwCl ([(rf_RW ct 0 ma 958 fa), (rf_MO mo mw ma mf m0 m1 mu mv u0 u1 iz th mb mn mpt mbg mwr mwk mlf men), (rf_RW ct 0 mw 958 f)] ++ ws) s.heap := ty_permP hP (ty_ordp (E := [(rf_MO mo mw ma mf m0 m1 mu mv u0 u1 iz th mb mn mpt mbg mwr mwk mlf men), (rf_RW ct 0 mw 958 f), (rf_RW ct 0 ma 958 fa)]) (E2 := [(rf_RW ct 0 ma 958 fa), (rf_MO mo mw ma mf m0 m1 mu mv u0 u1 iz th mb mn mpt mbg mwr mwk mlf men), (rf_RW ct 0 mw 958 f)]) (n := 3) [2, 0, 1] rfl rfl (by decide))
  have hD : va_D A ([(rf_RW ct 0 ma 958 fa), (rf_MO mo mw ma mf m0 m1 mu mv u0 u1 iz th mb mn mpt mbg mwr mwk mlf men), (rf_RW ct 0 mw 958 f)] ++ ws) := ty_permD hD (ty_ordp (E := [(rf_MO mo mw ma mf m0 m1 mu mv u0 u1 iz th mb mn mpt mbg mwr mwk mlf men), (rf_RW ct 0 mw 958 f), (rf_RW ct 0 ma 958 fa)]) (E2 := [(rf_RW ct 0 ma 958 fa), (rf_MO mo mw ma mf m0 m1 mu mv u0 u1 iz th mb mn mpt mbg mwr mwk mlf men), (rf_RW ct 0 mw 958 f)]) (n := 3) [2, 0, 1] rfl rfl (by decide))
  refine ty_ki (wr := [(rf_RW ct 0 ma 958 fa)]) (wc := ([(rf_MO mo mw ma mf m0 m1 mu mv u0 u1 iz th mb mn mpt mbg mwr mwk mlf men), (rf_RW ct 0 mw 958 f)] ++ ws)) (va_runV (As := [.int p1]) (rest := []) ⟨hx, hb, hml, hown, hts⟩ (m_X11_noChannel l D ct S ws ph xx mo mw ma mf m0 m1 mu mv u0 u1 iz mb th mn mpt mbg mwr mwk mlf men f G (-1) p1 _ hT h_mu h_mv h_u0 h_u1 hph hy1 hR) (cm_V 1 hts kc_X11_noChannel ki_RX11 kl_RX11_344 kv_X11_noChannel kx_X11_noChannel kd_X11_noChannel ⟨Nat.le_of_ble_eq_true rfl, Nat.le_of_ble_eq_true rfl⟩) (ty_preE (wr := [(rf_RW ct 0 ma 958 fa)]) (wc := ([(rf_MO mo mw ma mf m0 m1 mu mv u0 u1 iz th mb mn mpt mbg mwr mwk mlf men), (rf_RW ct 0 mw 958 f)] ++ ws)) (ci := 11) (q0 := 1) hP hK hD hS hA hX rfl rfl) rfl rfl hl.1 rfl (lv_room (Nat.le_of_ble_eq_true rfl)) dX11_doneIn_2 ⟨Nat.le_of_ble_eq_true rfl, Nat.le_of_ble_eq_true rfl⟩) hP hD hS hA (fun r_1 u H locs hw_2 hP hD hS => ?_)
  obtain ⟨ws_3, th1_4⟩ := u
  obtain ⟨hT, hp_5⟩ := hw_2
  have hp_5 : ((r_1 = 0 ∧ 0 ≤ p1.toInt ∧ p1.toInt < (G 9).toInt) ∨ r_1 = 1) := hp_5
  have hP : va_P D vwCl ([(rf_RW ct 0 ma 958 fa), (rf_MO mo mw ma mf m0 m1 mu mv u0 u1 iz th1_4 mb mn mpt mbg mwr mwk mlf men), (rf_RW ct 0 mw 958 f)] ++ ws_3) H := hP
  have hD : va_D A ([(rf_RW ct 0 ma 958 fa), (rf_MO mo mw ma mf m0 m1 mu mv u0 u1 iz th1_4 mb mn mpt mbg mwr mwk mlf men), (rf_RW ct 0 mw 958 f)] ++ ws_3) := hD
  rcases hp_5 with ⟨rfl, hz_6⟩ | rfl
  · refine lv_if_eq (tgt := 10) hx hb dX11_doneIn_5 (by decide) (fun _ => ?_) (fun hc => absurd (by decide) hc)
    refine lv_aload_n hx hb dX11_doneIn_10 rfl (lv_at hl 0 rfl) ?_
    refine lv_iload_n hx hb dX11_doneIn_11 rfl (lv_at hl 1 rfl) ?_
    refine lv_iconst (v := 3) hx hb dX11_doneIn_12 (by decide) ?_
    refine ty_ki (wr := [(rf_RW ct 0 ma 958 fa)]) (wc := ([(rf_MO mo mw ma mf m0 m1 mu mv u0 u1 iz th1_4 mb mn mpt mbg mwr mwk mlf men), (rf_RW ct 0 mw 958 f)] ++ ws_3)) (va_runV (As := [.int p1, .int 3]) (rest := []) ⟨hx, hb, hml, hown, hts⟩ (m_X11_isIn l D ct S ws_3 ph xx mo mw ma mf m0 m1 mu mv u0 u1 iz mb th1_4 mn mpt mbg mwr mwk mlf men f G (-1) p1 (3 : Int32) _ hT h_mu h_mv h_u0 h_u1 hph hy1 hR hz_6) (cm_V 2 hts kc_X11_isIn ki_RX11 kl_RX11_350 kv_X11_isIn kx_X11_isIn kd_X11_isIn ⟨Nat.le_of_ble_eq_true rfl, Nat.le_of_ble_eq_true rfl⟩) (ty_preE (wr := [(rf_RW ct 0 ma 958 fa)]) (wc := ([(rf_MO mo mw ma mf m0 m1 mu mv u0 u1 iz th1_4 mb mn mpt mbg mwr mwk mlf men), (rf_RW ct 0 mw 958 f)] ++ ws_3)) (ci := 11) (q0 := 1) hP hK hD hS hA hX rfl rfl) rfl rfl hl.1 rfl (lv_room (Nat.le_of_ble_eq_true rfl)) dX11_doneIn_13 ⟨Nat.le_of_ble_eq_true rfl, Nat.le_of_ble_eq_true rfl⟩) hP hD hS hA (fun r_7 u H locs hw_8 hP hD hS => ?_)
    obtain ⟨ws_9, rfl⟩ : ∃ z, z = u := ⟨_, rfl⟩
    obtain ⟨hT, hp_10⟩ := hw_8
    have hp_10 : ((r_7 = 0 ∧ ¬ rf_of f p1 0 = (3 : Int32)) ∨ (r_7 = 1 ∧ rf_of f p1 0 = (3 : Int32))) := hp_10
    have hP : va_P D vwCl ([(rf_RW ct 0 ma 958 fa), (rf_MO mo mw ma mf m0 m1 mu mv u0 u1 iz th1_4 mb mn mpt mbg mwr mwk mlf men), (rf_RW ct 0 mw 958 f)] ++ ws_9) H := hP
    have hD : va_D A ([(rf_RW ct 0 ma 958 fa), (rf_MO mo mw ma mf m0 m1 mu mv u0 u1 iz th1_4 mb mn mpt mbg mwr mwk mlf men), (rf_RW ct 0 mw 958 f)] ++ ws_9) := hD
    rcases hp_10 with ⟨rfl, hz_11⟩ | ⟨rfl, hz_12⟩
    · refine lv_if_eq (tgt := 23) hx hb dX11_doneIn_16 (by decide) (fun _ => ?_) (fun hc => absurd (by decide) hc)
      refine lv_aload_n hx hb dX11_doneIn_23 rfl (lv_at hl 0 rfl) ?_
      refine lv_iload_n hx hb dX11_doneIn_24 rfl (lv_at hl 1 rfl) ?_
      refine lv_iconst (v := 1) hx hb dX11_doneIn_25 (by decide) ?_
      refine ty_ki (wr := [(rf_RW ct 0 ma 958 fa)]) (wc := ([(rf_MO mo mw ma mf m0 m1 mu mv u0 u1 iz th1_4 mb mn mpt mbg mwr mwk mlf men), (rf_RW ct 0 mw 958 f)] ++ ws_9)) (va_runV (As := [.int p1, .int 1]) (rest := []) ⟨hx, hb, hml, hown, hts⟩ (m_X11_isIn l D ct S ws_9 ph xx mo mw ma mf m0 m1 mu mv u0 u1 iz mb th1_4 mn mpt mbg mwr mwk mlf men f G (-1) p1 (1 : Int32) _ hT h_mu h_mv h_u0 h_u1 hph hy1 hR hz_6) (cm_V 2 hts kc_X11_isIn ki_RX11 kl_RX11_350 kv_X11_isIn kx_X11_isIn kd_X11_isIn ⟨Nat.le_of_ble_eq_true rfl, Nat.le_of_ble_eq_true rfl⟩) (ty_preE (wr := [(rf_RW ct 0 ma 958 fa)]) (wc := ([(rf_MO mo mw ma mf m0 m1 mu mv u0 u1 iz th1_4 mb mn mpt mbg mwr mwk mlf men), (rf_RW ct 0 mw 958 f)] ++ ws_9)) (ci := 11) (q0 := 1) hP hK hD hS hA hX rfl rfl) rfl rfl hl.1 rfl (lv_room (Nat.le_of_ble_eq_true rfl)) dX11_doneIn_26 ⟨Nat.le_of_ble_eq_true rfl, Nat.le_of_ble_eq_true rfl⟩) hP hD hS hA (fun r_13 u H locs hw_14 hP hD hS => ?_)
      obtain ⟨ws_15, rfl⟩ : ∃ z, z = u := ⟨_, rfl⟩
      obtain ⟨hT, hp_16⟩ := hw_14
      have hp_16 : ((r_13 = 0 ∧ ¬ rf_of f p1 0 = (1 : Int32)) ∨ (r_13 = 1 ∧ rf_of f p1 0 = (1 : Int32))) := hp_16
      have hP : va_P D vwCl ([(rf_RW ct 0 ma 958 fa), (rf_MO mo mw ma mf m0 m1 mu mv u0 u1 iz th1_4 mb mn mpt mbg mwr mwk mlf men), (rf_RW ct 0 mw 958 f)] ++ ws_15) H := hP
      have hD : va_D A ([(rf_RW ct 0 ma 958 fa), (rf_MO mo mw ma mf m0 m1 mu mv u0 u1 iz th1_4 mb mn mpt mbg mwr mwk mlf men), (rf_RW ct 0 mw 958 f)] ++ ws_15) := hD
      rcases hp_16 with ⟨rfl, hz_17⟩ | ⟨rfl, hz_18⟩
      · refine lv_if_eq (tgt := 41) hx hb dX11_doneIn_29 (by decide) (fun _ => ?_) (fun hc => absurd (by decide) hc)
        refine lv_iconst (v := (-1)) hx hb dX11_doneIn_41 (by decide) ?_
        have hP : va_P D vwCl ([(rf_MO mo mw ma mf m0 m1 mu mv u0 u1 iz th1_4 mb mn mpt mbg mwr mwk mlf men), (rf_RW ct 0 mw 958 f), (rf_RW ct 0 ma 958 fa)] ++ ws_15) H := ty_permP hP (ty_ordp (E := [(rf_RW ct 0 ma 958 fa), (rf_MO mo mw ma mf m0 m1 mu mv u0 u1 iz th1_4 mb mn mpt mbg mwr mwk mlf men), (rf_RW ct 0 mw 958 f)]) (E2 := [(rf_MO mo mw ma mf m0 m1 mu mv u0 u1 iz th1_4 mb mn mpt mbg mwr mwk mlf men), (rf_RW ct 0 mw 958 f), (rf_RW ct 0 ma 958 fa)]) (n := 3) [1, 2, 0] rfl rfl (by decide))
        have hD : va_D A ([(rf_MO mo mw ma mf m0 m1 mu mv u0 u1 iz th1_4 mb mn mpt mbg mwr mwk mlf men), (rf_RW ct 0 mw 958 f), (rf_RW ct 0 ma 958 fa)] ++ ws_15) := ty_permD hD (ty_ordp (E := [(rf_RW ct 0 ma 958 fa), (rf_MO mo mw ma mf m0 m1 mu mv u0 u1 iz th1_4 mb mn mpt mbg mwr mwk mlf men), (rf_RW ct 0 mw 958 f)]) (E2 := [(rf_MO mo mw ma mf m0 m1 mu mv u0 u1 iz th1_4 mb mn mpt mbg mwr mwk mlf men), (rf_RW ct 0 mw 958 f), (rf_RW ct 0 ma 958 fa)]) (n := 3) [1, 2, 0] rfl rfl (by decide))
        exact W.iret (v := (-1)) hx hb hr (fun t ht hW => ⟨⟨(-1), (ws_15, men, th1_4, f, fa), rfl, ⟨hT, ⟨(rf_dr f), hR⟩⟩, by rw [ht]; exact hP, by rw [hAe]; exact hD⟩, hS.F ht⟩) hS.2.2 dX11_doneIn_42
      · refine lv_if_eq (tgt := 41) hx hb dX11_doneIn_29 (by decide) (fun hc => absurd hc (by decide)) (fun _ => ?_)
        refine lv_aload_n hx hb dX11_doneIn_32 rfl (lv_at hl 0 rfl) ?_
        refine lv_iload_n hx hb dX11_doneIn_33 rfl (lv_at hl 1 rfl) ?_
        refine lv_iconst (v := 3) hx hb dX11_doneIn_34 (by decide) ?_
        have hP : va_P D vwCl ([(rf_MO mo mw ma mf m0 m1 mu mv u0 u1 iz th1_4 mb mn mpt mbg mwr mwk mlf men), (rf_RW ct 0 mw 958 f), (rf_RW ct 0 ma 958 fa)] ++ ws_15) H := ty_permP hP (ty_ordp (E := [(rf_RW ct 0 ma 958 fa), (rf_MO mo mw ma mf m0 m1 mu mv u0 u1 iz th1_4 mb mn mpt mbg mwr mwk mlf men), (rf_RW ct 0 mw 958 f)]) (E2 := [(rf_MO mo mw ma mf m0 m1 mu mv u0 u1 iz th1_4 mb mn mpt mbg mwr mwk mlf men), (rf_RW ct 0 mw 958 f), (rf_RW ct 0 ma 958 fa)]) (n := 3) [1, 2, 0] rfl rfl (by decide))
        have hD : va_D A ([(rf_MO mo mw ma mf m0 m1 mu mv u0 u1 iz th1_4 mb mn mpt mbg mwr mwk mlf men), (rf_RW ct 0 mw 958 f), (rf_RW ct 0 ma 958 fa)] ++ ws_15) := ty_permD hD (ty_ordp (E := [(rf_RW ct 0 ma 958 fa), (rf_MO mo mw ma mf m0 m1 mu mv u0 u1 iz th1_4 mb mn mpt mbg mwr mwk mlf men), (rf_RW ct 0 mw 958 f)]) (E2 := [(rf_MO mo mw ma mf m0 m1 mu mv u0 u1 iz th1_4 mb mn mpt mbg mwr mwk mlf men), (rf_RW ct 0 mw 958 f), (rf_RW ct 0 ma 958 fa)]) (n := 3) [1, 2, 0] rfl rfl (by decide))
        refine ty_ki (wr := []) (wc := ([(rf_MO mo mw ma mf m0 m1 mu mv u0 u1 iz th1_4 mb mn mpt mbg mwr mwk mlf men), (rf_RW ct 0 mw 958 f), (rf_RW ct 0 ma 958 fa)] ++ ws_15)) (va_runV (As := [.int p1, .int 3]) (rest := []) ⟨hx, hb, hml, hown, hts⟩ (m_X11_untilAside l D ct S ws_15 ph xx mo mw ma mf m0 m1 mu mv u0 u1 iz mb th1_4 mn mpt mbg mwr mwk mlf men f G fa p1 (3 : Int32) _ hT h_mu h_mv h_u0 h_u1 hph hy1 hy11 hR hz_6) (cm_V 2 hts kc_X11_untilAside ki_RX11 kl_RX11_391 kv_X11_untilAside kx_X11_untilAside kd_X11_untilAside ⟨Nat.le_of_ble_eq_true rfl, Nat.le_of_ble_eq_true rfl⟩) (ty_preE (wr := []) (wc := ([(rf_MO mo mw ma mf m0 m1 mu mv u0 u1 iz th1_4 mb mn mpt mbg mwr mwk mlf men), (rf_RW ct 0 mw 958 f), (rf_RW ct 0 ma 958 fa)] ++ ws_15)) (ci := 11) (q0 := 0) hP hK hD hS hA hX rfl rfl) rfl rfl hl.1 rfl (lv_room (Nat.le_of_ble_eq_true rfl)) dX11_doneIn_35 ⟨Nat.le_of_ble_eq_true rfl, Nat.le_of_ble_eq_true rfl⟩) hP hD hS hA (fun r_19 u H locs hw_20 hP hD hS => ?_)
        obtain ⟨ws_21, men1_22, f1_23, fa1_24⟩ := u
        obtain ⟨hT, hp_25⟩ := hw_20
        have hp_25 : rf_d (f 8) f f1_23 ∧ rf_R G (-1) f1_23 := hp_25
        obtain ⟨hd_26, hq_27⟩ := hp_25
        have hD_28 := rf_dt (rf_dr f) hd_26
        have hR_29 := hq_27
        have hP : va_P D vwCl ([(rf_MO mo mw ma mf m0 m1 mu mv u0 u1 iz th1_4 mb mn mpt mbg mwr mwk mlf men1_22), (rf_RW ct 0 mw 958 f1_23), (rf_RW ct 0 ma 958 fa1_24)] ++ ws_21) H := hP
        have hD : va_D A ([(rf_MO mo mw ma mf m0 m1 mu mv u0 u1 iz th1_4 mb mn mpt mbg mwr mwk mlf men1_22), (rf_RW ct 0 mw 958 f1_23), (rf_RW ct 0 ma 958 fa1_24)] ++ ws_21) := hD
        refine lv_goto (tgt := 42) hx hb dX11_doneIn_38 (by decide) ?_
        exact W.iret (v := r_19) hx hb hr (fun t ht hW => ⟨⟨r_19, (ws_21, men1_22, th1_4, f1_23, fa1_24), rfl, ⟨hT, ⟨hD_28, hR_29⟩⟩, by rw [ht]; exact hP, by rw [hAe]; exact hD⟩, hS.F ht⟩) hS.2.2 dX11_doneIn_42
    · refine lv_if_eq (tgt := 23) hx hb dX11_doneIn_16 (by decide) (fun hc => absurd hc (by decide)) (fun _ => ?_)
      refine lv_iconst (v := 0) hx hb dX11_doneIn_19 (by decide) ?_
      refine lv_goto (tgt := 42) hx hb dX11_doneIn_20 (by decide) ?_
      have hP : va_P D vwCl ([(rf_MO mo mw ma mf m0 m1 mu mv u0 u1 iz th1_4 mb mn mpt mbg mwr mwk mlf men), (rf_RW ct 0 mw 958 f), (rf_RW ct 0 ma 958 fa)] ++ ws_9) H := ty_permP hP (ty_ordp (E := [(rf_RW ct 0 ma 958 fa), (rf_MO mo mw ma mf m0 m1 mu mv u0 u1 iz th1_4 mb mn mpt mbg mwr mwk mlf men), (rf_RW ct 0 mw 958 f)]) (E2 := [(rf_MO mo mw ma mf m0 m1 mu mv u0 u1 iz th1_4 mb mn mpt mbg mwr mwk mlf men), (rf_RW ct 0 mw 958 f), (rf_RW ct 0 ma 958 fa)]) (n := 3) [1, 2, 0] rfl rfl (by decide))
      have hD : va_D A ([(rf_MO mo mw ma mf m0 m1 mu mv u0 u1 iz th1_4 mb mn mpt mbg mwr mwk mlf men), (rf_RW ct 0 mw 958 f), (rf_RW ct 0 ma 958 fa)] ++ ws_9) := ty_permD hD (ty_ordp (E := [(rf_RW ct 0 ma 958 fa), (rf_MO mo mw ma mf m0 m1 mu mv u0 u1 iz th1_4 mb mn mpt mbg mwr mwk mlf men), (rf_RW ct 0 mw 958 f)]) (E2 := [(rf_MO mo mw ma mf m0 m1 mu mv u0 u1 iz th1_4 mb mn mpt mbg mwr mwk mlf men), (rf_RW ct 0 mw 958 f), (rf_RW ct 0 ma 958 fa)]) (n := 3) [1, 2, 0] rfl rfl (by decide))
      exact W.iret (v := 0) hx hb hr (fun t ht hW => ⟨⟨0, (ws_9, men, th1_4, f, fa), rfl, ⟨hT, ⟨(rf_dr f), hR⟩⟩, by rw [ht]; exact hP, by rw [hAe]; exact hD⟩, hS.F ht⟩) hS.2.2 dX11_doneIn_42
  · refine lv_if_eq (tgt := 10) hx hb dX11_doneIn_5 (by decide) (fun hc => absurd hc (by decide)) (fun _ => ?_)
    refine lv_iconst (v := 0) hx hb dX11_doneIn_8 (by decide) ?_
    have hP : va_P D vwCl ([(rf_MO mo mw ma mf m0 m1 mu mv u0 u1 iz th1_4 mb mn mpt mbg mwr mwk mlf men), (rf_RW ct 0 mw 958 f), (rf_RW ct 0 ma 958 fa)] ++ ws_3) H := ty_permP hP (ty_ordp (E := [(rf_RW ct 0 ma 958 fa), (rf_MO mo mw ma mf m0 m1 mu mv u0 u1 iz th1_4 mb mn mpt mbg mwr mwk mlf men), (rf_RW ct 0 mw 958 f)]) (E2 := [(rf_MO mo mw ma mf m0 m1 mu mv u0 u1 iz th1_4 mb mn mpt mbg mwr mwk mlf men), (rf_RW ct 0 mw 958 f), (rf_RW ct 0 ma 958 fa)]) (n := 3) [1, 2, 0] rfl rfl (by decide))
    have hD : va_D A ([(rf_MO mo mw ma mf m0 m1 mu mv u0 u1 iz th1_4 mb mn mpt mbg mwr mwk mlf men), (rf_RW ct 0 mw 958 f), (rf_RW ct 0 ma 958 fa)] ++ ws_3) := ty_permD hD (ty_ordp (E := [(rf_RW ct 0 ma 958 fa), (rf_MO mo mw ma mf m0 m1 mu mv u0 u1 iz th1_4 mb mn mpt mbg mwr mwk mlf men), (rf_RW ct 0 mw 958 f)]) (E2 := [(rf_MO mo mw ma mf m0 m1 mu mv u0 u1 iz th1_4 mb mn mpt mbg mwr mwk mlf men), (rf_RW ct 0 mw 958 f), (rf_RW ct 0 ma 958 fa)]) (n := 3) [1, 2, 0] rfl rfl (by decide))
    exact W.iret (v := 0) hx hb hr (fun t ht hW => ⟨⟨0, (ws_3, men, th1_4, f, fa), rfl, ⟨hT, ⟨(rf_dr f), hR⟩⟩, by rw [ht]; exact hP, by rw [hAe]; exact hD⟩, hS.F ht⟩) hS.2.2 dX11_doneIn_9
theorem dX11_tripsIn_0 : decode cX11_tripsIn 0 = .ok (.aload_n 0, 1) := by decide +kernel
theorem dX11_tripsIn_1 : decode cX11_tripsIn 1 = .ok (.iload_n 1, 1) := by decide +kernel
theorem dX11_tripsIn_2 : decode cX11_tripsIn 2 = .ok (.invokevirtual 344, 3) := by decide +kernel
theorem dX11_tripsIn_5 : decode cX11_tripsIn 5 = .ok (.ifCond .eq 5, 3) := by decide +kernel
theorem dX11_tripsIn_8 : decode cX11_tripsIn 8 = .ok (.iconst 0, 1) := by decide +kernel
theorem dX11_tripsIn_9 : decode cX11_tripsIn 9 = .ok (.ireturn, 1) := by decide +kernel
theorem dX11_tripsIn_10 : decode cX11_tripsIn 10 = .ok (.aload_n 0, 1) := by decide +kernel
theorem dX11_tripsIn_11 : decode cX11_tripsIn 11 = .ok (.iload_n 1, 1) := by decide +kernel
theorem dX11_tripsIn_12 : decode cX11_tripsIn 12 = .ok (.iconst 1, 1) := by decide +kernel
theorem dX11_tripsIn_13 : decode cX11_tripsIn 13 = .ok (.invokevirtual 350, 3) := by decide +kernel
theorem dX11_tripsIn_16 : decode cX11_tripsIn 16 = .ok (.ifCond .eq 12, 3) := by decide +kernel
theorem dX11_tripsIn_19 : decode cX11_tripsIn 19 = .ok (.aload_n 0, 1) := by decide +kernel
theorem dX11_tripsIn_20 : decode cX11_tripsIn 20 = .ok (.iload_n 1, 1) := by decide +kernel
theorem dX11_tripsIn_21 : decode cX11_tripsIn 21 = .ok (.iconst 4, 1) := by decide +kernel
theorem dX11_tripsIn_22 : decode cX11_tripsIn 22 = .ok (.invokevirtual 391, 3) := by decide +kernel
theorem dX11_tripsIn_25 : decode cX11_tripsIn 25 = .ok (.goto 4, 3) := by decide +kernel
theorem dX11_tripsIn_28 : decode cX11_tripsIn 28 = .ok (.iconst (-1), 1) := by decide +kernel
theorem dX11_tripsIn_29 : decode cX11_tripsIn 29 = .ok (.ireturn, 1) := by decide +kernel
set_option maxRecDepth 100000 in
set_option maxHeartbeats 4000000 in
theorem m_X11_tripsIn (l : Launch) (D : va_G) (ct : Nat → ClassId) (S : ty_S) (ws : va_W) (ph : va_W → Prop) (xx : Nat → Nat → Nat → Prop) (mo : Nat) (mw : Nat) (ma : Nat) (mf : Nat) (m0 : Nat) (m1 : Nat) (mu : Nat) (mv : Nat) (u0 : Nat) (u1 : Nat) (iz : Nat) (mb : Nat) (th : Int32) (mn : Int32) (mpt : Int32) (mbg : Int32) (mwr : Int32) (mwk : Int32) (mlf : Int32) (men : Int32) (f : Nat → Int32) (G : Nat → Int32) (fa : Nat → Int32) (p1 : Int32) (sz : Nat) (hT : ty_V ct S ph ws) (h_mu : S mu = some (.inr (1, 42))) (h_mv : S mv = some (.inr (1, 42))) (h_u0 : S u0 = some (.inr (1, 42))) (h_u1 : S u1 = some (.inr (1, 42))) (hph : ty_C ph xx) (hy1 : ty_y1 xx) (hy11 : ty_y0 xx 11) (hR : rf_R G (-1) f) : Met l yX11_tripsIn (ws_ yX11_tripsIn cX11_tripsIn 2 (some .int)) ({ frames := 10, cells := 0, slots := 0, locals := 232 } : Room) (va_Pc [.ref mo, .int p1] (cmP D ct sz ([(rf_MO mo mw ma mf m0 m1 mu mv u0 u1 iz th mb mn mpt mbg mwr mwk mlf men), (rf_RW ct 0 mw 958 f), (rf_RW ct 0 ma 958 fa)] ++ ws))) (va_Qi (fun (r : Int32) (u : va_W × Int32 × Int32 × (Nat → Int32) × (Nat → Int32)) => match u with | (u9, men1, th1, f1, fa1) => ty_V ct S ph u9 ∧ rf_d (f 8) f f1 ∧ rf_R G (-1) f1) (cmB D ([(rf_MO mo mw ma mf m0 m1 mu mv u0 u1 iz th mb mn mpt mbg mwr mwk mlf men), (rf_RW ct 0 mw 958 f), (rf_RW ct 0 ma 958 fa)] ++ ws) sz (fun (u : va_W × Int32 × Int32 × (Nat → Int32) × (Nat → Int32)) => match u with | (u9, men1, th1, f1, fa1) => ([(rf_MO mo mw ma mf m0 m1 mu mv u0 u1 iz th1 mb mn mpt mbg mwr mwk mlf men1), (rf_RW ct 0 mw 958 f1), (rf_RW ct 0 ma 958 fa1)] ++ u9))) (va_A ([(rf_MO mo mw ma mf m0 m1 mu mv u0 u1 iz th mb mn mpt mbg mwr mwk mlf men), (rf_RW ct 0 mw 958 f), (rf_RW ct 0 ma 958 fa)] ++ ws) sz)) 0 0 (va_A ([(rf_MO mo mw ma mf m0 m1 mu mv u0 u1 iz th mb mn mpt mbg mwr mwk mlf men), (rf_RW ct 0 mw 958 f), (rf_RW ct 0 ma 958 fa)] ++ ws) sz) := by
  refine Met.ofW (cc := cX11_tripsIn) (maxL := 2) (ret := (some .int)) (by decide) rfl ?_
  intro p e s m args below meth c s₁ B hml hv
  obtain ⟨rfl, hsz, hP, hK, hD0, hX⟩ := hv
  have hx := B.exec
  have hb := B.bytes
  have hr := B.returns
  have hts := ws_all (atoms_spec (ws := ws_ yX11_tripsIn cX11_tripsIn 2 (some .int)) B.pre)
  have hown : s.vm.findClass RX11 = some m.cls := findClass_of_methodNamed B.named
  have hlocks := B.notSynchronized
  subst hsz
  have hD := hD0.self (sz := s.heap.size)
  generalize hAe : va_A ([(rf_MO mo mw ma mf m0 m1 mu mv u0 u1 iz th mb mn mpt mbg mwr mwk mlf men), (rf_RW ct 0 mw 958 f), (rf_RW ct 0 ma 958 fa)] ++ ws) s.heap.size = A at hD hX ⊢
  have hA : ∀ q : Nat, s.heap.size ≤ q → A q := fun q h => by rw [← hAe]; exact Or.inr h
  have hS : va_S A s.heap s.heap [] := va_S.rf
  have hl := lv_entry ([.ref mo, .int p1]) (n := 2) (Nat.le_of_ble_eq_true rfl)
  rw [lg_entry_eq]
  generalize (lg_sl ([.ref mo, .int p1]) ++ List.replicate (2 - (lg_sl ([.ref mo, .int p1])).length) Slot.unset).toArray = ls at hl ⊢
  have hl : lv_has ls 2 [(0, .ref mo), (1, .int p1)] := hl
  refine lv_aload_n hx hb dX11_tripsIn_0 rfl (lv_at hl 0 rfl) ?_
  refine lv_iload_n hx hb dX11_tripsIn_1 rfl (lv_at hl 1 rfl) ?_
  have hP : va_P D vwCl ([(rf_RW ct 0 ma 958 fa), (rf_MO mo mw ma mf m0 m1 mu mv u0 u1 iz th mb mn mpt mbg mwr mwk mlf men), (rf_RW ct 0 mw 958 f)] ++ ws) s.heap := ty_permP hP (ty_ordp (E := [(rf_MO mo mw ma mf m0 m1 mu mv u0 u1 iz th mb mn mpt mbg mwr mwk mlf men), (rf_RW ct 0 mw 958 f), (rf_RW ct 0 ma 958 fa)]) (E2 := [(rf_RW ct 0 ma 958 fa), (rf_MO mo mw ma mf m0 m1 mu mv u0 u1 iz th mb mn mpt mbg mwr mwk mlf men), (rf_RW ct 0 mw 958 f)]) (n := 3) [2, 0, 1] rfl rfl (by decide))
  have hD : va_D A ([(rf_RW ct 0 ma 958 fa), (rf_MO mo mw ma mf m0 m1 mu mv u0 u1 iz th mb mn mpt mbg mwr mwk mlf men), (rf_RW ct 0 mw 958 f)] ++ ws) := ty_permD hD (ty_ordp (E := [(rf_MO mo mw ma mf m0 m1 mu mv u0 u1 iz th mb mn mpt mbg mwr mwk mlf men), (rf_RW ct 0 mw 958 f), (rf_RW ct 0 ma 958 fa)]) (E2 := [(rf_RW ct 0 ma 958 fa), (rf_MO mo mw ma mf m0 m1 mu mv u0 u1 iz th mb mn mpt mbg mwr mwk mlf men), (rf_RW ct 0 mw 958 f)]) (n := 3) [2, 0, 1] rfl rfl (by decide))
  refine ty_ki (wr := [(rf_RW ct 0 ma 958 fa)]) (wc := ([(rf_MO mo mw ma mf m0 m1 mu mv u0 u1 iz th mb mn mpt mbg mwr mwk mlf men), (rf_RW ct 0 mw 958 f)] ++ ws)) (va_runV (As := [.int p1]) (rest := []) ⟨hx, hb, hml, hown, hts⟩ (m_X11_noChannel l D ct S ws ph xx mo mw ma mf m0 m1 mu mv u0 u1 iz mb th mn mpt mbg mwr mwk mlf men f G (-1) p1 _ hT h_mu h_mv h_u0 h_u1 hph hy1 hR) (cm_V 1 hts kc_X11_noChannel ki_RX11 kl_RX11_344 kv_X11_noChannel kx_X11_noChannel kd_X11_noChannel ⟨Nat.le_of_ble_eq_true rfl, Nat.le_of_ble_eq_true rfl⟩) (ty_preE (wr := [(rf_RW ct 0 ma 958 fa)]) (wc := ([(rf_MO mo mw ma mf m0 m1 mu mv u0 u1 iz th mb mn mpt mbg mwr mwk mlf men), (rf_RW ct 0 mw 958 f)] ++ ws)) (ci := 11) (q0 := 1) hP hK hD hS hA hX rfl rfl) rfl rfl hl.1 rfl (lv_room (Nat.le_of_ble_eq_true rfl)) dX11_tripsIn_2 ⟨Nat.le_of_ble_eq_true rfl, Nat.le_of_ble_eq_true rfl⟩) hP hD hS hA (fun r_1 u H locs hw_2 hP hD hS => ?_)
  obtain ⟨ws_3, th1_4⟩ := u
  obtain ⟨hT, hp_5⟩ := hw_2
  have hp_5 : ((r_1 = 0 ∧ 0 ≤ p1.toInt ∧ p1.toInt < (G 9).toInt) ∨ r_1 = 1) := hp_5
  have hP : va_P D vwCl ([(rf_RW ct 0 ma 958 fa), (rf_MO mo mw ma mf m0 m1 mu mv u0 u1 iz th1_4 mb mn mpt mbg mwr mwk mlf men), (rf_RW ct 0 mw 958 f)] ++ ws_3) H := hP
  have hD : va_D A ([(rf_RW ct 0 ma 958 fa), (rf_MO mo mw ma mf m0 m1 mu mv u0 u1 iz th1_4 mb mn mpt mbg mwr mwk mlf men), (rf_RW ct 0 mw 958 f)] ++ ws_3) := hD
  rcases hp_5 with ⟨rfl, hz_6⟩ | rfl
  · refine lv_if_eq (tgt := 10) hx hb dX11_tripsIn_5 (by decide) (fun _ => ?_) (fun hc => absurd (by decide) hc)
    refine lv_aload_n hx hb dX11_tripsIn_10 rfl (lv_at hl 0 rfl) ?_
    refine lv_iload_n hx hb dX11_tripsIn_11 rfl (lv_at hl 1 rfl) ?_
    refine lv_iconst (v := 1) hx hb dX11_tripsIn_12 (by decide) ?_
    refine ty_ki (wr := [(rf_RW ct 0 ma 958 fa)]) (wc := ([(rf_MO mo mw ma mf m0 m1 mu mv u0 u1 iz th1_4 mb mn mpt mbg mwr mwk mlf men), (rf_RW ct 0 mw 958 f)] ++ ws_3)) (va_runV (As := [.int p1, .int 1]) (rest := []) ⟨hx, hb, hml, hown, hts⟩ (m_X11_isIn l D ct S ws_3 ph xx mo mw ma mf m0 m1 mu mv u0 u1 iz mb th1_4 mn mpt mbg mwr mwk mlf men f G (-1) p1 (1 : Int32) _ hT h_mu h_mv h_u0 h_u1 hph hy1 hR hz_6) (cm_V 2 hts kc_X11_isIn ki_RX11 kl_RX11_350 kv_X11_isIn kx_X11_isIn kd_X11_isIn ⟨Nat.le_of_ble_eq_true rfl, Nat.le_of_ble_eq_true rfl⟩) (ty_preE (wr := [(rf_RW ct 0 ma 958 fa)]) (wc := ([(rf_MO mo mw ma mf m0 m1 mu mv u0 u1 iz th1_4 mb mn mpt mbg mwr mwk mlf men), (rf_RW ct 0 mw 958 f)] ++ ws_3)) (ci := 11) (q0 := 1) hP hK hD hS hA hX rfl rfl) rfl rfl hl.1 rfl (lv_room (Nat.le_of_ble_eq_true rfl)) dX11_tripsIn_13 ⟨Nat.le_of_ble_eq_true rfl, Nat.le_of_ble_eq_true rfl⟩) hP hD hS hA (fun r_7 u H locs hw_8 hP hD hS => ?_)
    obtain ⟨ws_9, rfl⟩ : ∃ z, z = u := ⟨_, rfl⟩
    obtain ⟨hT, hp_10⟩ := hw_8
    have hp_10 : ((r_7 = 0 ∧ ¬ rf_of f p1 0 = (1 : Int32)) ∨ (r_7 = 1 ∧ rf_of f p1 0 = (1 : Int32))) := hp_10
    have hP : va_P D vwCl ([(rf_RW ct 0 ma 958 fa), (rf_MO mo mw ma mf m0 m1 mu mv u0 u1 iz th1_4 mb mn mpt mbg mwr mwk mlf men), (rf_RW ct 0 mw 958 f)] ++ ws_9) H := hP
    have hD : va_D A ([(rf_RW ct 0 ma 958 fa), (rf_MO mo mw ma mf m0 m1 mu mv u0 u1 iz th1_4 mb mn mpt mbg mwr mwk mlf men), (rf_RW ct 0 mw 958 f)] ++ ws_9) := hD
    rcases hp_10 with ⟨rfl, hz_11⟩ | ⟨rfl, hz_12⟩
    · refine lv_if_eq (tgt := 28) hx hb dX11_tripsIn_16 (by decide) (fun _ => ?_) (fun hc => absurd (by decide) hc)
      refine lv_iconst (v := (-1)) hx hb dX11_tripsIn_28 (by decide) ?_
      have hP : va_P D vwCl ([(rf_MO mo mw ma mf m0 m1 mu mv u0 u1 iz th1_4 mb mn mpt mbg mwr mwk mlf men), (rf_RW ct 0 mw 958 f), (rf_RW ct 0 ma 958 fa)] ++ ws_9) H := ty_permP hP (ty_ordp (E := [(rf_RW ct 0 ma 958 fa), (rf_MO mo mw ma mf m0 m1 mu mv u0 u1 iz th1_4 mb mn mpt mbg mwr mwk mlf men), (rf_RW ct 0 mw 958 f)]) (E2 := [(rf_MO mo mw ma mf m0 m1 mu mv u0 u1 iz th1_4 mb mn mpt mbg mwr mwk mlf men), (rf_RW ct 0 mw 958 f), (rf_RW ct 0 ma 958 fa)]) (n := 3) [1, 2, 0] rfl rfl (by decide))
      have hD : va_D A ([(rf_MO mo mw ma mf m0 m1 mu mv u0 u1 iz th1_4 mb mn mpt mbg mwr mwk mlf men), (rf_RW ct 0 mw 958 f), (rf_RW ct 0 ma 958 fa)] ++ ws_9) := ty_permD hD (ty_ordp (E := [(rf_RW ct 0 ma 958 fa), (rf_MO mo mw ma mf m0 m1 mu mv u0 u1 iz th1_4 mb mn mpt mbg mwr mwk mlf men), (rf_RW ct 0 mw 958 f)]) (E2 := [(rf_MO mo mw ma mf m0 m1 mu mv u0 u1 iz th1_4 mb mn mpt mbg mwr mwk mlf men), (rf_RW ct 0 mw 958 f), (rf_RW ct 0 ma 958 fa)]) (n := 3) [1, 2, 0] rfl rfl (by decide))
      exact W.iret (v := (-1)) hx hb hr (fun t ht hW => ⟨⟨(-1), (ws_9, men, th1_4, f, fa), rfl, ⟨hT, ⟨(rf_dr f), hR⟩⟩, by rw [ht]; exact hP, by rw [hAe]; exact hD⟩, hS.F ht⟩) hS.2.2 dX11_tripsIn_29
    · refine lv_if_eq (tgt := 28) hx hb dX11_tripsIn_16 (by decide) (fun hc => absurd hc (by decide)) (fun _ => ?_)
      refine lv_aload_n hx hb dX11_tripsIn_19 rfl (lv_at hl 0 rfl) ?_
      refine lv_iload_n hx hb dX11_tripsIn_20 rfl (lv_at hl 1 rfl) ?_
      refine lv_iconst (v := 4) hx hb dX11_tripsIn_21 (by decide) ?_
      have hP : va_P D vwCl ([(rf_MO mo mw ma mf m0 m1 mu mv u0 u1 iz th1_4 mb mn mpt mbg mwr mwk mlf men), (rf_RW ct 0 mw 958 f), (rf_RW ct 0 ma 958 fa)] ++ ws_9) H := ty_permP hP (ty_ordp (E := [(rf_RW ct 0 ma 958 fa), (rf_MO mo mw ma mf m0 m1 mu mv u0 u1 iz th1_4 mb mn mpt mbg mwr mwk mlf men), (rf_RW ct 0 mw 958 f)]) (E2 := [(rf_MO mo mw ma mf m0 m1 mu mv u0 u1 iz th1_4 mb mn mpt mbg mwr mwk mlf men), (rf_RW ct 0 mw 958 f), (rf_RW ct 0 ma 958 fa)]) (n := 3) [1, 2, 0] rfl rfl (by decide))
      have hD : va_D A ([(rf_MO mo mw ma mf m0 m1 mu mv u0 u1 iz th1_4 mb mn mpt mbg mwr mwk mlf men), (rf_RW ct 0 mw 958 f), (rf_RW ct 0 ma 958 fa)] ++ ws_9) := ty_permD hD (ty_ordp (E := [(rf_RW ct 0 ma 958 fa), (rf_MO mo mw ma mf m0 m1 mu mv u0 u1 iz th1_4 mb mn mpt mbg mwr mwk mlf men), (rf_RW ct 0 mw 958 f)]) (E2 := [(rf_MO mo mw ma mf m0 m1 mu mv u0 u1 iz th1_4 mb mn mpt mbg mwr mwk mlf men), (rf_RW ct 0 mw 958 f), (rf_RW ct 0 ma 958 fa)]) (n := 3) [1, 2, 0] rfl rfl (by decide))
      refine ty_ki (wr := []) (wc := ([(rf_MO mo mw ma mf m0 m1 mu mv u0 u1 iz th1_4 mb mn mpt mbg mwr mwk mlf men), (rf_RW ct 0 mw 958 f), (rf_RW ct 0 ma 958 fa)] ++ ws_9)) (va_runV (As := [.int p1, .int 4]) (rest := []) ⟨hx, hb, hml, hown, hts⟩ (m_X11_untilAside l D ct S ws_9 ph xx mo mw ma mf m0 m1 mu mv u0 u1 iz mb th1_4 mn mpt mbg mwr mwk mlf men f G fa p1 (4 : Int32) _ hT h_mu h_mv h_u0 h_u1 hph hy1 hy11 hR hz_6) (cm_V 2 hts kc_X11_untilAside ki_RX11 kl_RX11_391 kv_X11_untilAside kx_X11_untilAside kd_X11_untilAside ⟨Nat.le_of_ble_eq_true rfl, Nat.le_of_ble_eq_true rfl⟩) (ty_preE (wr := []) (wc := ([(rf_MO mo mw ma mf m0 m1 mu mv u0 u1 iz th1_4 mb mn mpt mbg mwr mwk mlf men), (rf_RW ct 0 mw 958 f), (rf_RW ct 0 ma 958 fa)] ++ ws_9)) (ci := 11) (q0 := 0) hP hK hD hS hA hX rfl rfl) rfl rfl hl.1 rfl (lv_room (Nat.le_of_ble_eq_true rfl)) dX11_tripsIn_22 ⟨Nat.le_of_ble_eq_true rfl, Nat.le_of_ble_eq_true rfl⟩) hP hD hS hA (fun r_13 u H locs hw_14 hP hD hS => ?_)
      obtain ⟨ws_15, men1_16, f1_17, fa1_18⟩ := u
      obtain ⟨hT, hp_19⟩ := hw_14
      have hp_19 : rf_d (f 8) f f1_17 ∧ rf_R G (-1) f1_17 := hp_19
      obtain ⟨hd_20, hq_21⟩ := hp_19
      have hD_22 := rf_dt (rf_dr f) hd_20
      have hR_23 := hq_21
      have hP : va_P D vwCl ([(rf_MO mo mw ma mf m0 m1 mu mv u0 u1 iz th1_4 mb mn mpt mbg mwr mwk mlf men1_16), (rf_RW ct 0 mw 958 f1_17), (rf_RW ct 0 ma 958 fa1_18)] ++ ws_15) H := hP
      have hD : va_D A ([(rf_MO mo mw ma mf m0 m1 mu mv u0 u1 iz th1_4 mb mn mpt mbg mwr mwk mlf men1_16), (rf_RW ct 0 mw 958 f1_17), (rf_RW ct 0 ma 958 fa1_18)] ++ ws_15) := hD
      refine lv_goto (tgt := 29) hx hb dX11_tripsIn_25 (by decide) ?_
      exact W.iret (v := r_13) hx hb hr (fun t ht hW => ⟨⟨r_13, (ws_15, men1_16, th1_4, f1_17, fa1_18), rfl, ⟨hT, ⟨hD_22, hR_23⟩⟩, by rw [ht]; exact hP, by rw [hAe]; exact hD⟩, hS.F ht⟩) hS.2.2 dX11_tripsIn_29
  · refine lv_if_eq (tgt := 10) hx hb dX11_tripsIn_5 (by decide) (fun hc => absurd hc (by decide)) (fun _ => ?_)
    refine lv_iconst (v := 0) hx hb dX11_tripsIn_8 (by decide) ?_
    have hP : va_P D vwCl ([(rf_MO mo mw ma mf m0 m1 mu mv u0 u1 iz th1_4 mb mn mpt mbg mwr mwk mlf men), (rf_RW ct 0 mw 958 f), (rf_RW ct 0 ma 958 fa)] ++ ws_3) H := ty_permP hP (ty_ordp (E := [(rf_RW ct 0 ma 958 fa), (rf_MO mo mw ma mf m0 m1 mu mv u0 u1 iz th1_4 mb mn mpt mbg mwr mwk mlf men), (rf_RW ct 0 mw 958 f)]) (E2 := [(rf_MO mo mw ma mf m0 m1 mu mv u0 u1 iz th1_4 mb mn mpt mbg mwr mwk mlf men), (rf_RW ct 0 mw 958 f), (rf_RW ct 0 ma 958 fa)]) (n := 3) [1, 2, 0] rfl rfl (by decide))
    have hD : va_D A ([(rf_MO mo mw ma mf m0 m1 mu mv u0 u1 iz th1_4 mb mn mpt mbg mwr mwk mlf men), (rf_RW ct 0 mw 958 f), (rf_RW ct 0 ma 958 fa)] ++ ws_3) := ty_permD hD (ty_ordp (E := [(rf_RW ct 0 ma 958 fa), (rf_MO mo mw ma mf m0 m1 mu mv u0 u1 iz th1_4 mb mn mpt mbg mwr mwk mlf men), (rf_RW ct 0 mw 958 f)]) (E2 := [(rf_MO mo mw ma mf m0 m1 mu mv u0 u1 iz th1_4 mb mn mpt mbg mwr mwk mlf men), (rf_RW ct 0 mw 958 f), (rf_RW ct 0 ma 958 fa)]) (n := 3) [1, 2, 0] rfl rfl (by decide))
    exact W.iret (v := 0) hx hb hr (fun t ht hW => ⟨⟨0, (ws_3, men, th1_4, f, fa), rfl, ⟨hT, ⟨(rf_dr f), hR⟩⟩, by rw [ht]; exact hP, by rw [hAe]; exact hD⟩, hS.F ht⟩) hS.2.2 dX11_tripsIn_9
theorem dX11_stepEndsIn_0 : decode cX11_stepEndsIn 0 = .ok (.aload_n 0, 1) := by decide +kernel
theorem dX11_stepEndsIn_1 : decode cX11_stepEndsIn 1 = .ok (.iload_n 1, 1) := by decide +kernel
theorem dX11_stepEndsIn_2 : decode cX11_stepEndsIn 2 = .ok (.invokevirtual 344, 3) := by decide +kernel
theorem dX11_stepEndsIn_5 : decode cX11_stepEndsIn 5 = .ok (.ifCond .eq 5, 3) := by decide +kernel
theorem dX11_stepEndsIn_8 : decode cX11_stepEndsIn 8 = .ok (.iconst 0, 1) := by decide +kernel
theorem dX11_stepEndsIn_9 : decode cX11_stepEndsIn 9 = .ok (.ireturn, 1) := by decide +kernel
theorem dX11_stepEndsIn_10 : decode cX11_stepEndsIn 10 = .ok (.aload_n 0, 1) := by decide +kernel
theorem dX11_stepEndsIn_11 : decode cX11_stepEndsIn 11 = .ok (.iload_n 1, 1) := by decide +kernel
theorem dX11_stepEndsIn_12 : decode cX11_stepEndsIn 12 = .ok (.iconst 1, 1) := by decide +kernel
theorem dX11_stepEndsIn_13 : decode cX11_stepEndsIn 13 = .ok (.invokevirtual 350, 3) := by decide +kernel
theorem dX11_stepEndsIn_16 : decode cX11_stepEndsIn 16 = .ok (.ifCond .ne 5, 3) := by decide +kernel
theorem dX11_stepEndsIn_19 : decode cX11_stepEndsIn 19 = .ok (.iconst (-1), 1) := by decide +kernel
theorem dX11_stepEndsIn_20 : decode cX11_stepEndsIn 20 = .ok (.ireturn, 1) := by decide +kernel
theorem dX11_stepEndsIn_21 : decode cX11_stepEndsIn 21 = .ok (.aload_n 0, 1) := by decide +kernel
theorem dX11_stepEndsIn_22 : decode cX11_stepEndsIn 22 = .ok (.invokevirtual 379, 3) := by decide +kernel
theorem dX11_stepEndsIn_25 : decode cX11_stepEndsIn 25 = .ok (.iconst 0, 1) := by decide +kernel
theorem dX11_stepEndsIn_26 : decode cX11_stepEndsIn 26 = .ok (.istore_n 2, 1) := by decide +kernel
theorem dX11_stepEndsIn_27 : decode cX11_stepEndsIn 27 = .ok (.aload_n 0, 1) := by decide +kernel
theorem dX11_stepEndsIn_28 : decode cX11_stepEndsIn 28 = .ok (.getfield 300, 3) := by decide +kernel
theorem dX11_stepEndsIn_31 : decode cX11_stepEndsIn 31 = .ok (.ifCond .ne 30, 3) := by decide +kernel
theorem dX11_stepEndsIn_34 : decode cX11_stepEndsIn 34 = .ok (.aload_n 0, 1) := by decide +kernel
theorem dX11_stepEndsIn_35 : decode cX11_stepEndsIn 35 = .ok (.iload_n 1, 1) := by decide +kernel
theorem dX11_stepEndsIn_36 : decode cX11_stepEndsIn 36 = .ok (.iconst 1, 1) := by decide +kernel
theorem dX11_stepEndsIn_37 : decode cX11_stepEndsIn 37 = .ok (.invokevirtual 350, 3) := by decide +kernel
theorem dX11_stepEndsIn_40 : decode cX11_stepEndsIn 40 = .ok (.ifCond .eq 21, 3) := by decide +kernel
theorem dX11_stepEndsIn_43 : decode cX11_stepEndsIn 43 = .ok (.iload_n 2, 1) := by decide +kernel
theorem dX11_stepEndsIn_44 : decode cX11_stepEndsIn 44 = .ok (.sipush 20000, 3) := by decide +kernel
theorem dX11_stepEndsIn_47 : decode cX11_stepEndsIn 47 = .ok (.if_icmp .ge 14, 3) := by decide +kernel
theorem dX11_stepEndsIn_50 : decode cX11_stepEndsIn 50 = .ok (.aload_n 0, 1) := by decide +kernel
theorem dX11_stepEndsIn_51 : decode cX11_stepEndsIn 51 = .ok (.iload_n 1, 1) := by decide +kernel
theorem dX11_stepEndsIn_52 : decode cX11_stepEndsIn 52 = .ok (.invokevirtual 382, 3) := by decide +kernel
theorem dX11_stepEndsIn_55 : decode cX11_stepEndsIn 55 = .ok (.iinc 2 1, 3) := by decide +kernel
theorem dX11_stepEndsIn_58 : decode cX11_stepEndsIn 58 = .ok (.goto (-31), 3) := by decide +kernel
theorem dX11_stepEndsIn_61 : decode cX11_stepEndsIn 61 = .ok (.aload_n 0, 1) := by decide +kernel
theorem dX11_stepEndsIn_62 : decode cX11_stepEndsIn 62 = .ok (.getfield 300, 3) := by decide +kernel
theorem dX11_stepEndsIn_65 : decode cX11_stepEndsIn 65 = .ok (.ifCond .le 7, 3) := by decide +kernel
theorem dX11_stepEndsIn_68 : decode cX11_stepEndsIn 68 = .ok (.iload_n 2, 1) := by decide +kernel
theorem dX11_stepEndsIn_69 : decode cX11_stepEndsIn 69 = .ok (.goto 4, 3) := by decide +kernel
theorem dX11_stepEndsIn_72 : decode cX11_stepEndsIn 72 = .ok (.iconst (-1), 1) := by decide +kernel
theorem dX11_stepEndsIn_73 : decode cX11_stepEndsIn 73 = .ok (.istore_n 3, 1) := by decide +kernel
theorem dX11_stepEndsIn_74 : decode cX11_stepEndsIn 74 = .ok (.aload_n 0, 1) := by decide +kernel
theorem dX11_stepEndsIn_75 : decode cX11_stepEndsIn 75 = .ok (.invokevirtual 385, 3) := by decide +kernel
theorem dX11_stepEndsIn_78 : decode cX11_stepEndsIn 78 = .ok (.iload_n 3, 1) := by decide +kernel
theorem dX11_stepEndsIn_79 : decode cX11_stepEndsIn 79 = .ok (.ireturn, 1) := by decide +kernel
set_option maxRecDepth 100000 in
set_option maxHeartbeats 4000000 in
theorem m_X11_stepEndsIn (l : Launch) (D : va_G) (ct : Nat → ClassId) (S : ty_S) (ws : va_W) (ph : va_W → Prop) (xx : Nat → Nat → Nat → Prop) (mo : Nat) (mw : Nat) (ma : Nat) (mf : Nat) (m0 : Nat) (m1 : Nat) (mu : Nat) (mv : Nat) (u0 : Nat) (u1 : Nat) (iz : Nat) (mb : Nat) (th : Int32) (mn : Int32) (mpt : Int32) (mbg : Int32) (mwr : Int32) (mwk : Int32) (mlf : Int32) (men : Int32) (f : Nat → Int32) (G : Nat → Int32) (fa : Nat → Int32) (p1 : Int32) (sz : Nat) (hT : ty_V ct S ph ws) (h_mu : S mu = some (.inr (1, 42))) (h_mv : S mv = some (.inr (1, 42))) (h_u0 : S u0 = some (.inr (1, 42))) (h_u1 : S u1 = some (.inr (1, 42))) (hph : ty_C ph xx) (hy1 : ty_y1 xx) (hy11 : ty_y0 xx 11) (hR : rf_R G (-1) f) : Met l yX11_stepEndsIn (ws_ yX11_stepEndsIn cX11_stepEndsIn 4 (some .int)) ({ frames := 8, cells := 0, slots := 0, locals := 186 } : Room) (va_Pc [.ref mo, .int p1] (cmP D ct sz ([(rf_MO mo mw ma mf m0 m1 mu mv u0 u1 iz th mb mn mpt mbg mwr mwk mlf men), (rf_RW ct 0 mw 958 f), (rf_RW ct 0 ma 958 fa)] ++ ws))) (va_Qi (fun (r : Int32) (u : va_W × Int32 × Int32 × (Nat → Int32) × (Nat → Int32)) => match u with | (u9, men1, th1, f1, fa1) => ty_V ct S ph u9 ∧ rf_d (f 8) f f1 ∧ rf_R G (-1) f1) (cmB D ([(rf_MO mo mw ma mf m0 m1 mu mv u0 u1 iz th mb mn mpt mbg mwr mwk mlf men), (rf_RW ct 0 mw 958 f), (rf_RW ct 0 ma 958 fa)] ++ ws) sz (fun (u : va_W × Int32 × Int32 × (Nat → Int32) × (Nat → Int32)) => match u with | (u9, men1, th1, f1, fa1) => ([(rf_MO mo mw ma mf m0 m1 mu mv u0 u1 iz th1 mb mn mpt mbg mwr mwk mlf men1), (rf_RW ct 0 mw 958 f1), (rf_RW ct 0 ma 958 fa1)] ++ u9))) (va_A ([(rf_MO mo mw ma mf m0 m1 mu mv u0 u1 iz th mb mn mpt mbg mwr mwk mlf men), (rf_RW ct 0 mw 958 f), (rf_RW ct 0 ma 958 fa)] ++ ws) sz)) 0 0 (va_A ([(rf_MO mo mw ma mf m0 m1 mu mv u0 u1 iz th mb mn mpt mbg mwr mwk mlf men), (rf_RW ct 0 mw 958 f), (rf_RW ct 0 ma 958 fa)] ++ ws) sz) := by
  refine Met.ofW (cc := cX11_stepEndsIn) (maxL := 4) (ret := (some .int)) (by decide) rfl ?_
  intro p e s m args below meth c s₁ B hml hv
  obtain ⟨rfl, hsz, hP, hK, hD0, hX⟩ := hv
  have hx := B.exec
  have hb := B.bytes
  have hr := B.returns
  have hts := ws_all (atoms_spec (ws := ws_ yX11_stepEndsIn cX11_stepEndsIn 4 (some .int)) B.pre)
  have hown : s.vm.findClass RX11 = some m.cls := findClass_of_methodNamed B.named
  have hlocks := B.notSynchronized
  subst hsz
  have hD := hD0.self (sz := s.heap.size)
  generalize hAe : va_A ([(rf_MO mo mw ma mf m0 m1 mu mv u0 u1 iz th mb mn mpt mbg mwr mwk mlf men), (rf_RW ct 0 mw 958 f), (rf_RW ct 0 ma 958 fa)] ++ ws) s.heap.size = A at hD hX ⊢
  have hA : ∀ q : Nat, s.heap.size ≤ q → A q := fun q h => by rw [← hAe]; exact Or.inr h
  have hS : va_S A s.heap s.heap [] := va_S.rf
  have hl := lv_entry ([.ref mo, .int p1]) (n := 4) (Nat.le_of_ble_eq_true rfl)
  rw [lg_entry_eq]
  generalize (lg_sl ([.ref mo, .int p1]) ++ List.replicate (4 - (lg_sl ([.ref mo, .int p1])).length) Slot.unset).toArray = ls at hl ⊢
  have hl : lv_has ls 4 [(0, .ref mo), (1, .int p1)] := hl
  refine lv_aload_n hx hb dX11_stepEndsIn_0 rfl (lv_at hl 0 rfl) ?_
  refine lv_iload_n hx hb dX11_stepEndsIn_1 rfl (lv_at hl 1 rfl) ?_
  have hP : va_P D vwCl ([(rf_RW ct 0 ma 958 fa), (rf_MO mo mw ma mf m0 m1 mu mv u0 u1 iz th mb mn mpt mbg mwr mwk mlf men), (rf_RW ct 0 mw 958 f)] ++ ws) s.heap := ty_permP hP (ty_ordp (E := [(rf_MO mo mw ma mf m0 m1 mu mv u0 u1 iz th mb mn mpt mbg mwr mwk mlf men), (rf_RW ct 0 mw 958 f), (rf_RW ct 0 ma 958 fa)]) (E2 := [(rf_RW ct 0 ma 958 fa), (rf_MO mo mw ma mf m0 m1 mu mv u0 u1 iz th mb mn mpt mbg mwr mwk mlf men), (rf_RW ct 0 mw 958 f)]) (n := 3) [2, 0, 1] rfl rfl (by decide))
  have hD : va_D A ([(rf_RW ct 0 ma 958 fa), (rf_MO mo mw ma mf m0 m1 mu mv u0 u1 iz th mb mn mpt mbg mwr mwk mlf men), (rf_RW ct 0 mw 958 f)] ++ ws) := ty_permD hD (ty_ordp (E := [(rf_MO mo mw ma mf m0 m1 mu mv u0 u1 iz th mb mn mpt mbg mwr mwk mlf men), (rf_RW ct 0 mw 958 f), (rf_RW ct 0 ma 958 fa)]) (E2 := [(rf_RW ct 0 ma 958 fa), (rf_MO mo mw ma mf m0 m1 mu mv u0 u1 iz th mb mn mpt mbg mwr mwk mlf men), (rf_RW ct 0 mw 958 f)]) (n := 3) [2, 0, 1] rfl rfl (by decide))
  refine ty_ki (wr := [(rf_RW ct 0 ma 958 fa)]) (wc := ([(rf_MO mo mw ma mf m0 m1 mu mv u0 u1 iz th mb mn mpt mbg mwr mwk mlf men), (rf_RW ct 0 mw 958 f)] ++ ws)) (va_runV (As := [.int p1]) (rest := []) ⟨hx, hb, hml, hown, hts⟩ (m_X11_noChannel l D ct S ws ph xx mo mw ma mf m0 m1 mu mv u0 u1 iz mb th mn mpt mbg mwr mwk mlf men f G (-1) p1 _ hT h_mu h_mv h_u0 h_u1 hph hy1 hR) (cm_V 1 hts kc_X11_noChannel ki_RX11 kl_RX11_344 kv_X11_noChannel kx_X11_noChannel kd_X11_noChannel ⟨Nat.le_of_ble_eq_true rfl, Nat.le_of_ble_eq_true rfl⟩) (ty_preE (wr := [(rf_RW ct 0 ma 958 fa)]) (wc := ([(rf_MO mo mw ma mf m0 m1 mu mv u0 u1 iz th mb mn mpt mbg mwr mwk mlf men), (rf_RW ct 0 mw 958 f)] ++ ws)) (ci := 11) (q0 := 1) hP hK hD hS hA hX rfl rfl) rfl rfl hl.1 rfl (lv_room (Nat.le_of_ble_eq_true rfl)) dX11_stepEndsIn_2 ⟨Nat.le_of_ble_eq_true rfl, Nat.le_of_ble_eq_true rfl⟩) hP hD hS hA (fun r_1 u H locs hw_2 hP hD hS => ?_)
  obtain ⟨ws_3, th1_4⟩ := u
  obtain ⟨hT, hp_5⟩ := hw_2
  have hp_5 : ((r_1 = 0 ∧ 0 ≤ p1.toInt ∧ p1.toInt < (G 9).toInt) ∨ r_1 = 1) := hp_5
  have hP : va_P D vwCl ([(rf_RW ct 0 ma 958 fa), (rf_MO mo mw ma mf m0 m1 mu mv u0 u1 iz th1_4 mb mn mpt mbg mwr mwk mlf men), (rf_RW ct 0 mw 958 f)] ++ ws_3) H := hP
  have hD : va_D A ([(rf_RW ct 0 ma 958 fa), (rf_MO mo mw ma mf m0 m1 mu mv u0 u1 iz th1_4 mb mn mpt mbg mwr mwk mlf men), (rf_RW ct 0 mw 958 f)] ++ ws_3) := hD
  rcases hp_5 with ⟨rfl, hz_6⟩ | rfl
  · refine lv_if_eq (tgt := 10) hx hb dX11_stepEndsIn_5 (by decide) (fun _ => ?_) (fun hc => absurd (by decide) hc)
    refine lv_aload_n hx hb dX11_stepEndsIn_10 rfl (lv_at hl 0 rfl) ?_
    refine lv_iload_n hx hb dX11_stepEndsIn_11 rfl (lv_at hl 1 rfl) ?_
    refine lv_iconst (v := 1) hx hb dX11_stepEndsIn_12 (by decide) ?_
    refine ty_ki (wr := [(rf_RW ct 0 ma 958 fa)]) (wc := ([(rf_MO mo mw ma mf m0 m1 mu mv u0 u1 iz th1_4 mb mn mpt mbg mwr mwk mlf men), (rf_RW ct 0 mw 958 f)] ++ ws_3)) (va_runV (As := [.int p1, .int 1]) (rest := []) ⟨hx, hb, hml, hown, hts⟩ (m_X11_isIn l D ct S ws_3 ph xx mo mw ma mf m0 m1 mu mv u0 u1 iz mb th1_4 mn mpt mbg mwr mwk mlf men f G (-1) p1 (1 : Int32) _ hT h_mu h_mv h_u0 h_u1 hph hy1 hR hz_6) (cm_V 2 hts kc_X11_isIn ki_RX11 kl_RX11_350 kv_X11_isIn kx_X11_isIn kd_X11_isIn ⟨Nat.le_of_ble_eq_true rfl, Nat.le_of_ble_eq_true rfl⟩) (ty_preE (wr := [(rf_RW ct 0 ma 958 fa)]) (wc := ([(rf_MO mo mw ma mf m0 m1 mu mv u0 u1 iz th1_4 mb mn mpt mbg mwr mwk mlf men), (rf_RW ct 0 mw 958 f)] ++ ws_3)) (ci := 11) (q0 := 1) hP hK hD hS hA hX rfl rfl) rfl rfl hl.1 rfl (lv_room (Nat.le_of_ble_eq_true rfl)) dX11_stepEndsIn_13 ⟨Nat.le_of_ble_eq_true rfl, Nat.le_of_ble_eq_true rfl⟩) hP hD hS hA (fun r_7 u H locs hw_8 hP hD hS => ?_)
    obtain ⟨ws_9, rfl⟩ : ∃ z, z = u := ⟨_, rfl⟩
    obtain ⟨hT, hp_10⟩ := hw_8
    have hp_10 : ((r_7 = 0 ∧ ¬ rf_of f p1 0 = (1 : Int32)) ∨ (r_7 = 1 ∧ rf_of f p1 0 = (1 : Int32))) := hp_10
    have hP : va_P D vwCl ([(rf_RW ct 0 ma 958 fa), (rf_MO mo mw ma mf m0 m1 mu mv u0 u1 iz th1_4 mb mn mpt mbg mwr mwk mlf men), (rf_RW ct 0 mw 958 f)] ++ ws_9) H := hP
    have hD : va_D A ([(rf_RW ct 0 ma 958 fa), (rf_MO mo mw ma mf m0 m1 mu mv u0 u1 iz th1_4 mb mn mpt mbg mwr mwk mlf men), (rf_RW ct 0 mw 958 f)] ++ ws_9) := hD
    rcases hp_10 with ⟨rfl, hz_11⟩ | ⟨rfl, hz_12⟩
    · refine lv_if_ne (tgt := 21) hx hb dX11_stepEndsIn_16 (by decide) (fun hc => absurd (by decide) hc) (fun _ => ?_)
      refine lv_iconst (v := (-1)) hx hb dX11_stepEndsIn_19 (by decide) ?_
      have hP : va_P D vwCl ([(rf_MO mo mw ma mf m0 m1 mu mv u0 u1 iz th1_4 mb mn mpt mbg mwr mwk mlf men), (rf_RW ct 0 mw 958 f), (rf_RW ct 0 ma 958 fa)] ++ ws_9) H := ty_permP hP (ty_ordp (E := [(rf_RW ct 0 ma 958 fa), (rf_MO mo mw ma mf m0 m1 mu mv u0 u1 iz th1_4 mb mn mpt mbg mwr mwk mlf men), (rf_RW ct 0 mw 958 f)]) (E2 := [(rf_MO mo mw ma mf m0 m1 mu mv u0 u1 iz th1_4 mb mn mpt mbg mwr mwk mlf men), (rf_RW ct 0 mw 958 f), (rf_RW ct 0 ma 958 fa)]) (n := 3) [1, 2, 0] rfl rfl (by decide))
      have hD : va_D A ([(rf_MO mo mw ma mf m0 m1 mu mv u0 u1 iz th1_4 mb mn mpt mbg mwr mwk mlf men), (rf_RW ct 0 mw 958 f), (rf_RW ct 0 ma 958 fa)] ++ ws_9) := ty_permD hD (ty_ordp (E := [(rf_RW ct 0 ma 958 fa), (rf_MO mo mw ma mf m0 m1 mu mv u0 u1 iz th1_4 mb mn mpt mbg mwr mwk mlf men), (rf_RW ct 0 mw 958 f)]) (E2 := [(rf_MO mo mw ma mf m0 m1 mu mv u0 u1 iz th1_4 mb mn mpt mbg mwr mwk mlf men), (rf_RW ct 0 mw 958 f), (rf_RW ct 0 ma 958 fa)]) (n := 3) [1, 2, 0] rfl rfl (by decide))
      exact W.iret (v := (-1)) hx hb hr (fun t ht hW => ⟨⟨(-1), (ws_9, men, th1_4, f, fa), rfl, ⟨hT, ⟨(rf_dr f), hR⟩⟩, by rw [ht]; exact hP, by rw [hAe]; exact hD⟩, hS.F ht⟩) hS.2.2 dX11_stepEndsIn_20
    · refine lv_if_ne (tgt := 21) hx hb dX11_stepEndsIn_16 (by decide) (fun _ => ?_) (fun hc => absurd hc (by decide))
      refine lv_aload_n hx hb dX11_stepEndsIn_21 rfl (lv_at hl 0 rfl) ?_
      have hP : va_P D vwCl ([(rf_MO mo mw ma mf m0 m1 mu mv u0 u1 iz th1_4 mb mn mpt mbg mwr mwk mlf men), (rf_RW ct 0 mw 958 f), (rf_RW ct 0 ma 958 fa)] ++ ws_9) H := ty_permP hP (ty_ordp (E := [(rf_RW ct 0 ma 958 fa), (rf_MO mo mw ma mf m0 m1 mu mv u0 u1 iz th1_4 mb mn mpt mbg mwr mwk mlf men), (rf_RW ct 0 mw 958 f)]) (E2 := [(rf_MO mo mw ma mf m0 m1 mu mv u0 u1 iz th1_4 mb mn mpt mbg mwr mwk mlf men), (rf_RW ct 0 mw 958 f), (rf_RW ct 0 ma 958 fa)]) (n := 3) [1, 2, 0] rfl rfl (by decide))
      have hD : va_D A ([(rf_MO mo mw ma mf m0 m1 mu mv u0 u1 iz th1_4 mb mn mpt mbg mwr mwk mlf men), (rf_RW ct 0 mw 958 f), (rf_RW ct 0 ma 958 fa)] ++ ws_9) := ty_permD hD (ty_ordp (E := [(rf_RW ct 0 ma 958 fa), (rf_MO mo mw ma mf m0 m1 mu mv u0 u1 iz th1_4 mb mn mpt mbg mwr mwk mlf men), (rf_RW ct 0 mw 958 f)]) (E2 := [(rf_MO mo mw ma mf m0 m1 mu mv u0 u1 iz th1_4 mb mn mpt mbg mwr mwk mlf men), (rf_RW ct 0 mw 958 f), (rf_RW ct 0 ma 958 fa)]) (n := 3) [1, 2, 0] rfl rfl (by decide))
      refine ty_kv (wr := []) (wc := ([(rf_MO mo mw ma mf m0 m1 mu mv u0 u1 iz th1_4 mb mn mpt mbg mwr mwk mlf men), (rf_RW ct 0 mw 958 f), (rf_RW ct 0 ma 958 fa)] ++ ws_9)) (va_runV (As := []) (rest := []) ⟨hx, hb, hml, hown, hts⟩ (m_X11_goesAside l D ct S ws_9 ph xx mo mw ma mf m0 m1 mu mv u0 u1 iz mb th1_4 mn mpt mbg mwr mwk mlf men f G fa _ hT h_mu h_mv h_u0 h_u1 hph hy1 hy11 hR) (cm_V 0 hts kc_X11_goesAside ki_RX11 kl_RX11_379 kv_X11_goesAside kx_X11_goesAside kd_X11_goesAside ⟨Nat.le_of_ble_eq_true rfl, Nat.le_of_ble_eq_true rfl⟩) (ty_preE (wr := []) (wc := ([(rf_MO mo mw ma mf m0 m1 mu mv u0 u1 iz th1_4 mb mn mpt mbg mwr mwk mlf men), (rf_RW ct 0 mw 958 f), (rf_RW ct 0 ma 958 fa)] ++ ws_9)) (ci := 11) (q0 := 0) hP hK hD hS hA hX rfl rfl) rfl rfl hl.1 rfl (lv_room (Nat.le_of_ble_eq_true rfl)) dX11_stepEndsIn_22 ⟨Nat.le_of_ble_eq_true rfl, Nat.le_of_ble_eq_true rfl⟩) hP hD hS hA (fun u H locs hw_14 hP hD hS => ?_)
      obtain ⟨ws_15, fa1_16⟩ := u
      obtain ⟨hT, hp_17⟩ := hw_14
      have hp_17 : rf_R G (-1) fa1_16 ∧ fa1_16 8 = f 8 := hp_17
      have hP : va_P D vwCl ([(rf_MO mo mw ma mf m0 m1 mu mv u0 u1 iz th1_4 mb mn mpt mbg mwr mwk mlf (0)), (rf_RW ct 0 mw 958 f), (rf_RW ct 0 ma 958 fa1_16)] ++ ws_15) H := hP
      have hD : va_D A ([(rf_MO mo mw ma mf m0 m1 mu mv u0 u1 iz th1_4 mb mn mpt mbg mwr mwk mlf (0)), (rf_RW ct 0 mw 958 f), (rf_RW ct 0 ma 958 fa1_16)] ++ ws_15) := hD
      refine lv_iconst (v := 0) hx hb dX11_stepEndsIn_25 (by decide) ?_
      refine lv_istore_n (lv' := [(2, .int 0), (0, .ref mo), (1, .int p1)]) hx hb dX11_stepEndsIn_26 rfl hl (by decide) rfl (fun ls hl => ?_)
      refine ty_loop (I := fun μ H locs ls => ∃ (ws : va_W) (y_18 : Int32) (y_19 : Int32) (f_20 : Nat → Int32), μ = (2147483648 - y_18.toInt).toNat ∧ ty_V ct S ph ws ∧ va_P D vwCl ([(rf_MO mo mw ma mf m0 m1 mu mv u0 u1 iz th1_4 mb mn mpt mbg mwr mwk mlf y_19), (rf_RW ct 0 mw 958 f_20), (rf_RW ct 0 ma 958 fa1_16)] ++ ws) H ∧ va_D A ([(rf_MO mo mw ma mf m0 m1 mu mv u0 u1 iz th1_4 mb mn mpt mbg mwr mwk mlf y_19), (rf_RW ct 0 mw 958 f_20), (rf_RW ct 0 ma 958 fa1_16)] ++ ws) ∧ va_S A s.heap H locs ∧ lv_has ls 4 [(0, .ref mo), (1, .int p1), (2, .int y_18)] ∧ rf_R G (-1) f_20) ⟨_, ws_15, (0 : Int32), (0 : Int32), f, rfl, hT, hP, hD, hS, (lv_sub hl [1, 2, 0] rfl), hR⟩ (fun μ H locs ls hI ih_27 => ?_)
      obtain ⟨ws, y_18, y_19, f_20, rfl, hT, hP, hD, hS, hl, hR_27⟩ := hI
      refine lv_aload_n hx hb dX11_stepEndsIn_27 rfl (lv_at hl 0 rfl) ?_
      refine va_get (v := .int y_19) (D := D) (ci := 11) (C := RX11) (T := TX11) (N := 19) hx hb hts in_X11 hown hK hP 0 rfl rfl 18 (by decide) (hts _ kl_RX11_300) (fun _ h9 => h9) rfl dX11_stepEndsIn_28 ?_
      refine lv_if_ne (tgt := 61) hx hb dX11_stepEndsIn_31 (by decide) (fun hc_21 => ?_) (fun hc_21 => ?_)
      · refine lv_aload_n hx hb dX11_stepEndsIn_61 rfl (lv_at hl 0 rfl) ?_
        refine va_get (v := .int y_19) (D := D) (ci := 11) (C := RX11) (T := TX11) (N := 19) hx hb hts in_X11 hown hK hP 0 rfl rfl 18 (by decide) (hts _ kl_RX11_300) (fun _ h9 => h9) rfl dX11_stepEndsIn_62 ?_
        refine lv_if_le (tgt := 72) hx hb dX11_stepEndsIn_65 (by decide) (fun hc_22 => ?_) (fun hc_22 => ?_)
        · refine lv_iconst (v := (-1)) hx hb dX11_stepEndsIn_72 (by decide) ?_
          refine lv_istore_n (lv' := [(3, .int (-1)), (0, .ref mo), (1, .int p1), (2, .int y_18)]) hx hb dX11_stepEndsIn_73 rfl hl (by decide) rfl (fun ls hl => ?_)
          refine lv_aload_n hx hb dX11_stepEndsIn_74 rfl (lv_at hl 1 rfl) ?_
          refine ty_kv (wr := []) (wc := ([(rf_MO mo mw ma mf m0 m1 mu mv u0 u1 iz th1_4 mb mn mpt mbg mwr mwk mlf y_19), (rf_RW ct 0 mw 958 f_20), (rf_RW ct 0 ma 958 fa1_16)] ++ ws)) (va_runV (As := []) (rest := []) ⟨hx, hb, hml, hown, hts⟩ (m_X11_comesBack l D ct S ws ph xx mo mw ma mf m0 m1 mu mv u0 u1 iz mb th1_4 mn mpt mbg mwr mwk mlf y_19 f_20 G fa1_16 _ hT h_mu h_mv h_u0 h_u1 hph hy1 hy11 hp_17.1) (cm_V 0 hts kc_X11_comesBack ki_RX11 kl_RX11_385 kv_X11_comesBack kx_X11_comesBack kd_X11_comesBack ⟨Nat.le_of_ble_eq_true rfl, Nat.le_of_ble_eq_true rfl⟩) (ty_preE (wr := []) (wc := ([(rf_MO mo mw ma mf m0 m1 mu mv u0 u1 iz th1_4 mb mn mpt mbg mwr mwk mlf y_19), (rf_RW ct 0 mw 958 f_20), (rf_RW ct 0 ma 958 fa1_16)] ++ ws)) (ci := 11) (q0 := 0) hP hK hD hS hA hX rfl rfl) rfl rfl hl.1 rfl (lv_room (Nat.le_of_ble_eq_true rfl)) dX11_stepEndsIn_75 ⟨Nat.le_of_ble_eq_true rfl, Nat.le_of_ble_eq_true rfl⟩) hP hD hS hA (fun u H locs hw_24 hP hD hS => ?_)
          obtain ⟨ws_25, f1_26⟩ := u
          obtain ⟨hT, hp_27⟩ := hw_24
          have hp_27 : rf_R G (-1) f1_26 ∧ f1_26 8 = fa1_16 8 := hp_27
          have hR_28 := hp_27.1
          have hP : va_P D vwCl ([(rf_MO mo mw ma mf m0 m1 mu mv u0 u1 iz th1_4 mb mn mpt mbg mwr mwk mlf y_19), (rf_RW ct 0 mw 958 f1_26), (rf_RW ct 0 ma 958 fa1_16)] ++ ws_25) H := hP
          have hD : va_D A ([(rf_MO mo mw ma mf m0 m1 mu mv u0 u1 iz th1_4 mb mn mpt mbg mwr mwk mlf y_19), (rf_RW ct 0 mw 958 f1_26), (rf_RW ct 0 ma 958 fa1_16)] ++ ws_25) := hD
          have hD_30 := rf_dg (rf_dr f) hp_17.2 hp_27.2
          refine lv_iload_n hx hb dX11_stepEndsIn_78 rfl (lv_at hl 0 rfl) ?_
          exact W.iret (v := (-1)) hx hb hr (fun t ht hW => ⟨⟨(-1), (ws_25, y_19, th1_4, f1_26, fa1_16), rfl, ⟨hT, ⟨hD_30, hR_28⟩⟩, by rw [ht]; exact hP, by rw [hAe]; exact hD⟩, hS.F ht⟩) hS.2.2 dX11_stepEndsIn_79
        · refine lv_iload_n hx hb dX11_stepEndsIn_68 rfl (lv_at hl 2 rfl) ?_
          refine lv_goto (tgt := 73) hx hb dX11_stepEndsIn_69 (by decide) ?_
          refine lv_istore_n (lv' := [(3, .int y_18), (0, .ref mo), (1, .int p1), (2, .int y_18)]) hx hb dX11_stepEndsIn_73 rfl hl (by decide) rfl (fun ls hl => ?_)
          refine lv_aload_n hx hb dX11_stepEndsIn_74 rfl (lv_at hl 1 rfl) ?_
          refine ty_kv (wr := []) (wc := ([(rf_MO mo mw ma mf m0 m1 mu mv u0 u1 iz th1_4 mb mn mpt mbg mwr mwk mlf y_19), (rf_RW ct 0 mw 958 f_20), (rf_RW ct 0 ma 958 fa1_16)] ++ ws)) (va_runV (As := []) (rest := []) ⟨hx, hb, hml, hown, hts⟩ (m_X11_comesBack l D ct S ws ph xx mo mw ma mf m0 m1 mu mv u0 u1 iz mb th1_4 mn mpt mbg mwr mwk mlf y_19 f_20 G fa1_16 _ hT h_mu h_mv h_u0 h_u1 hph hy1 hy11 hp_17.1) (cm_V 0 hts kc_X11_comesBack ki_RX11 kl_RX11_385 kv_X11_comesBack kx_X11_comesBack kd_X11_comesBack ⟨Nat.le_of_ble_eq_true rfl, Nat.le_of_ble_eq_true rfl⟩) (ty_preE (wr := []) (wc := ([(rf_MO mo mw ma mf m0 m1 mu mv u0 u1 iz th1_4 mb mn mpt mbg mwr mwk mlf y_19), (rf_RW ct 0 mw 958 f_20), (rf_RW ct 0 ma 958 fa1_16)] ++ ws)) (ci := 11) (q0 := 0) hP hK hD hS hA hX rfl rfl) rfl rfl hl.1 rfl (lv_room (Nat.le_of_ble_eq_true rfl)) dX11_stepEndsIn_75 ⟨Nat.le_of_ble_eq_true rfl, Nat.le_of_ble_eq_true rfl⟩) hP hD hS hA (fun u H locs hw_32 hP hD hS => ?_)
          obtain ⟨ws_33, f1_34⟩ := u
          obtain ⟨hT, hp_35⟩ := hw_32
          have hp_35 : rf_R G (-1) f1_34 ∧ f1_34 8 = fa1_16 8 := hp_35
          have hR_36 := hp_35.1
          have hP : va_P D vwCl ([(rf_MO mo mw ma mf m0 m1 mu mv u0 u1 iz th1_4 mb mn mpt mbg mwr mwk mlf y_19), (rf_RW ct 0 mw 958 f1_34), (rf_RW ct 0 ma 958 fa1_16)] ++ ws_33) H := hP
          have hD : va_D A ([(rf_MO mo mw ma mf m0 m1 mu mv u0 u1 iz th1_4 mb mn mpt mbg mwr mwk mlf y_19), (rf_RW ct 0 mw 958 f1_34), (rf_RW ct 0 ma 958 fa1_16)] ++ ws_33) := hD
          have hD_38 := rf_dg (rf_dr f) hp_17.2 hp_35.2
          refine lv_iload_n hx hb dX11_stepEndsIn_78 rfl (lv_at hl 0 rfl) ?_
          exact W.iret (v := y_18) hx hb hr (fun t ht hW => ⟨⟨y_18, (ws_33, y_19, th1_4, f1_34, fa1_16), rfl, ⟨hT, ⟨hD_38, hR_36⟩⟩, by rw [ht]; exact hP, by rw [hAe]; exact hD⟩, hS.F ht⟩) hS.2.2 dX11_stepEndsIn_79
      · refine lv_aload_n hx hb dX11_stepEndsIn_34 rfl (lv_at hl 0 rfl) ?_
        refine lv_iload_n hx hb dX11_stepEndsIn_35 rfl (lv_at hl 1 rfl) ?_
        refine lv_iconst (v := 1) hx hb dX11_stepEndsIn_36 (by decide) ?_
        have hP : va_P D vwCl ([(rf_RW ct 0 ma 958 fa1_16), (rf_MO mo mw ma mf m0 m1 mu mv u0 u1 iz th1_4 mb mn mpt mbg mwr mwk mlf y_19), (rf_RW ct 0 mw 958 f_20)] ++ ws) H := ty_permP hP (ty_ordp (E := [(rf_MO mo mw ma mf m0 m1 mu mv u0 u1 iz th1_4 mb mn mpt mbg mwr mwk mlf y_19), (rf_RW ct 0 mw 958 f_20), (rf_RW ct 0 ma 958 fa1_16)]) (E2 := [(rf_RW ct 0 ma 958 fa1_16), (rf_MO mo mw ma mf m0 m1 mu mv u0 u1 iz th1_4 mb mn mpt mbg mwr mwk mlf y_19), (rf_RW ct 0 mw 958 f_20)]) (n := 3) [2, 0, 1] rfl rfl (by decide))
        have hD : va_D A ([(rf_RW ct 0 ma 958 fa1_16), (rf_MO mo mw ma mf m0 m1 mu mv u0 u1 iz th1_4 mb mn mpt mbg mwr mwk mlf y_19), (rf_RW ct 0 mw 958 f_20)] ++ ws) := ty_permD hD (ty_ordp (E := [(rf_MO mo mw ma mf m0 m1 mu mv u0 u1 iz th1_4 mb mn mpt mbg mwr mwk mlf y_19), (rf_RW ct 0 mw 958 f_20), (rf_RW ct 0 ma 958 fa1_16)]) (E2 := [(rf_RW ct 0 ma 958 fa1_16), (rf_MO mo mw ma mf m0 m1 mu mv u0 u1 iz th1_4 mb mn mpt mbg mwr mwk mlf y_19), (rf_RW ct 0 mw 958 f_20)]) (n := 3) [2, 0, 1] rfl rfl (by decide))
        refine ty_ki (wr := [(rf_RW ct 0 ma 958 fa1_16)]) (wc := ([(rf_MO mo mw ma mf m0 m1 mu mv u0 u1 iz th1_4 mb mn mpt mbg mwr mwk mlf y_19), (rf_RW ct 0 mw 958 f_20)] ++ ws)) (va_runV (As := [.int p1, .int 1]) (rest := []) ⟨hx, hb, hml, hown, hts⟩ (m_X11_isIn l D ct S ws ph xx mo mw ma mf m0 m1 mu mv u0 u1 iz mb th1_4 mn mpt mbg mwr mwk mlf y_19 f_20 G (-1) p1 (1 : Int32) _ hT h_mu h_mv h_u0 h_u1 hph hy1 hR_27 hz_6) (cm_V 2 hts kc_X11_isIn ki_RX11 kl_RX11_350 kv_X11_isIn kx_X11_isIn kd_X11_isIn ⟨Nat.le_of_ble_eq_true rfl, Nat.le_of_ble_eq_true rfl⟩) (ty_preE (wr := [(rf_RW ct 0 ma 958 fa1_16)]) (wc := ([(rf_MO mo mw ma mf m0 m1 mu mv u0 u1 iz th1_4 mb mn mpt mbg mwr mwk mlf y_19), (rf_RW ct 0 mw 958 f_20)] ++ ws)) (ci := 11) (q0 := 1) hP hK hD hS hA hX rfl rfl) rfl rfl hl.1 rfl (lv_room (Nat.le_of_ble_eq_true rfl)) dX11_stepEndsIn_37 ⟨Nat.le_of_ble_eq_true rfl, Nat.le_of_ble_eq_true rfl⟩) hP hD hS hA (fun r_39 u H locs hw_40 hP hD hS => ?_)
        obtain ⟨ws_41, rfl⟩ : ∃ z, z = u := ⟨_, rfl⟩
        obtain ⟨hT, hp_42⟩ := hw_40
        have hp_42 : ((r_39 = 0 ∧ ¬ rf_of f_20 p1 0 = (1 : Int32)) ∨ (r_39 = 1 ∧ rf_of f_20 p1 0 = (1 : Int32))) := hp_42
        have hP : va_P D vwCl ([(rf_RW ct 0 ma 958 fa1_16), (rf_MO mo mw ma mf m0 m1 mu mv u0 u1 iz th1_4 mb mn mpt mbg mwr mwk mlf y_19), (rf_RW ct 0 mw 958 f_20)] ++ ws_41) H := hP
        have hD : va_D A ([(rf_RW ct 0 ma 958 fa1_16), (rf_MO mo mw ma mf m0 m1 mu mv u0 u1 iz th1_4 mb mn mpt mbg mwr mwk mlf y_19), (rf_RW ct 0 mw 958 f_20)] ++ ws_41) := hD
        rcases hp_42 with ⟨rfl, hz_43⟩ | ⟨rfl, hz_44⟩
        · refine lv_if_eq (tgt := 61) hx hb dX11_stepEndsIn_40 (by decide) (fun _ => ?_) (fun hc => absurd (by decide) hc)
          refine lv_aload_n hx hb dX11_stepEndsIn_61 rfl (lv_at hl 0 rfl) ?_
          refine va_get (v := .int y_19) (D := D) (ci := 11) (C := RX11) (T := TX11) (N := 19) hx hb hts in_X11 hown hK hP 1 rfl rfl 18 (by decide) (hts _ kl_RX11_300) (fun _ h9 => h9) rfl dX11_stepEndsIn_62 ?_
          refine lv_if_le (tgt := 72) hx hb dX11_stepEndsIn_65 (by decide) (fun hc_45 => ?_) (fun hc_45 => ?_)
          · refine lv_iconst (v := (-1)) hx hb dX11_stepEndsIn_72 (by decide) ?_
            refine lv_istore_n (lv' := [(3, .int (-1)), (0, .ref mo), (1, .int p1), (2, .int y_18)]) hx hb dX11_stepEndsIn_73 rfl hl (by decide) rfl (fun ls hl => ?_)
            refine lv_aload_n hx hb dX11_stepEndsIn_74 rfl (lv_at hl 1 rfl) ?_
            have hP : va_P D vwCl ([(rf_MO mo mw ma mf m0 m1 mu mv u0 u1 iz th1_4 mb mn mpt mbg mwr mwk mlf y_19), (rf_RW ct 0 mw 958 f_20), (rf_RW ct 0 ma 958 fa1_16)] ++ ws_41) H := ty_permP hP (ty_ordp (E := [(rf_RW ct 0 ma 958 fa1_16), (rf_MO mo mw ma mf m0 m1 mu mv u0 u1 iz th1_4 mb mn mpt mbg mwr mwk mlf y_19), (rf_RW ct 0 mw 958 f_20)]) (E2 := [(rf_MO mo mw ma mf m0 m1 mu mv u0 u1 iz th1_4 mb mn mpt mbg mwr mwk mlf y_19), (rf_RW ct 0 mw 958 f_20), (rf_RW ct 0 ma 958 fa1_16)]) (n := 3) [1, 2, 0] rfl rfl (by decide))
            have hD : va_D A ([(rf_MO mo mw ma mf m0 m1 mu mv u0 u1 iz th1_4 mb mn mpt mbg mwr mwk mlf y_19), (rf_RW ct 0 mw 958 f_20), (rf_RW ct 0 ma 958 fa1_16)] ++ ws_41) := ty_permD hD (ty_ordp (E := [(rf_RW ct 0 ma 958 fa1_16), (rf_MO mo mw ma mf m0 m1 mu mv u0 u1 iz th1_4 mb mn mpt mbg mwr mwk mlf y_19), (rf_RW ct 0 mw 958 f_20)]) (E2 := [(rf_MO mo mw ma mf m0 m1 mu mv u0 u1 iz th1_4 mb mn mpt mbg mwr mwk mlf y_19), (rf_RW ct 0 mw 958 f_20), (rf_RW ct 0 ma 958 fa1_16)]) (n := 3) [1, 2, 0] rfl rfl (by decide))
            refine ty_kv (wr := []) (wc := ([(rf_MO mo mw ma mf m0 m1 mu mv u0 u1 iz th1_4 mb mn mpt mbg mwr mwk mlf y_19), (rf_RW ct 0 mw 958 f_20), (rf_RW ct 0 ma 958 fa1_16)] ++ ws_41)) (va_runV (As := []) (rest := []) ⟨hx, hb, hml, hown, hts⟩ (m_X11_comesBack l D ct S ws_41 ph xx mo mw ma mf m0 m1 mu mv u0 u1 iz mb th1_4 mn mpt mbg mwr mwk mlf y_19 f_20 G fa1_16 _ hT h_mu h_mv h_u0 h_u1 hph hy1 hy11 hp_17.1) (cm_V 0 hts kc_X11_comesBack ki_RX11 kl_RX11_385 kv_X11_comesBack kx_X11_comesBack kd_X11_comesBack ⟨Nat.le_of_ble_eq_true rfl, Nat.le_of_ble_eq_true rfl⟩) (ty_preE (wr := []) (wc := ([(rf_MO mo mw ma mf m0 m1 mu mv u0 u1 iz th1_4 mb mn mpt mbg mwr mwk mlf y_19), (rf_RW ct 0 mw 958 f_20), (rf_RW ct 0 ma 958 fa1_16)] ++ ws_41)) (ci := 11) (q0 := 0) hP hK hD hS hA hX rfl rfl) rfl rfl hl.1 rfl (lv_room (Nat.le_of_ble_eq_true rfl)) dX11_stepEndsIn_75 ⟨Nat.le_of_ble_eq_true rfl, Nat.le_of_ble_eq_true rfl⟩) hP hD hS hA (fun u H locs hw_47 hP hD hS => ?_)
            obtain ⟨ws_48, f1_49⟩ := u
            obtain ⟨hT, hp_50⟩ := hw_47
            have hp_50 : rf_R G (-1) f1_49 ∧ f1_49 8 = fa1_16 8 := hp_50
            have hR_51 := hp_50.1
            have hP : va_P D vwCl ([(rf_MO mo mw ma mf m0 m1 mu mv u0 u1 iz th1_4 mb mn mpt mbg mwr mwk mlf y_19), (rf_RW ct 0 mw 958 f1_49), (rf_RW ct 0 ma 958 fa1_16)] ++ ws_48) H := hP
            have hD : va_D A ([(rf_MO mo mw ma mf m0 m1 mu mv u0 u1 iz th1_4 mb mn mpt mbg mwr mwk mlf y_19), (rf_RW ct 0 mw 958 f1_49), (rf_RW ct 0 ma 958 fa1_16)] ++ ws_48) := hD
            have hD_53 := rf_dg (rf_dr f) hp_17.2 hp_50.2
            refine lv_iload_n hx hb dX11_stepEndsIn_78 rfl (lv_at hl 0 rfl) ?_
            exact W.iret (v := (-1)) hx hb hr (fun t ht hW => ⟨⟨(-1), (ws_48, y_19, th1_4, f1_49, fa1_16), rfl, ⟨hT, ⟨hD_53, hR_51⟩⟩, by rw [ht]; exact hP, by rw [hAe]; exact hD⟩, hS.F ht⟩) hS.2.2 dX11_stepEndsIn_79
          · refine lv_iload_n hx hb dX11_stepEndsIn_68 rfl (lv_at hl 2 rfl) ?_
            refine lv_goto (tgt := 73) hx hb dX11_stepEndsIn_69 (by decide) ?_
            refine lv_istore_n (lv' := [(3, .int y_18), (0, .ref mo), (1, .int p1), (2, .int y_18)]) hx hb dX11_stepEndsIn_73 rfl hl (by decide) rfl (fun ls hl => ?_)
            refine lv_aload_n hx hb dX11_stepEndsIn_74 rfl (lv_at hl 1 rfl) ?_
            have hP : va_P D vwCl ([(rf_MO mo mw ma mf m0 m1 mu mv u0 u1 iz th1_4 mb mn mpt mbg mwr mwk mlf y_19), (rf_RW ct 0 mw 958 f_20), (rf_RW ct 0 ma 958 fa1_16)] ++ ws_41) H := ty_permP hP (ty_ordp (E := [(rf_RW ct 0 ma 958 fa1_16), (rf_MO mo mw ma mf m0 m1 mu mv u0 u1 iz th1_4 mb mn mpt mbg mwr mwk mlf y_19), (rf_RW ct 0 mw 958 f_20)]) (E2 := [(rf_MO mo mw ma mf m0 m1 mu mv u0 u1 iz th1_4 mb mn mpt mbg mwr mwk mlf y_19), (rf_RW ct 0 mw 958 f_20), (rf_RW ct 0 ma 958 fa1_16)]) (n := 3) [1, 2, 0] rfl rfl (by decide))
            have hD : va_D A ([(rf_MO mo mw ma mf m0 m1 mu mv u0 u1 iz th1_4 mb mn mpt mbg mwr mwk mlf y_19), (rf_RW ct 0 mw 958 f_20), (rf_RW ct 0 ma 958 fa1_16)] ++ ws_41) := ty_permD hD (ty_ordp (E := [(rf_RW ct 0 ma 958 fa1_16), (rf_MO mo mw ma mf m0 m1 mu mv u0 u1 iz th1_4 mb mn mpt mbg mwr mwk mlf y_19), (rf_RW ct 0 mw 958 f_20)]) (E2 := [(rf_MO mo mw ma mf m0 m1 mu mv u0 u1 iz th1_4 mb mn mpt mbg mwr mwk mlf y_19), (rf_RW ct 0 mw 958 f_20), (rf_RW ct 0 ma 958 fa1_16)]) (n := 3) [1, 2, 0] rfl rfl (by decide))
            refine ty_kv (wr := []) (wc := ([(rf_MO mo mw ma mf m0 m1 mu mv u0 u1 iz th1_4 mb mn mpt mbg mwr mwk mlf y_19), (rf_RW ct 0 mw 958 f_20), (rf_RW ct 0 ma 958 fa1_16)] ++ ws_41)) (va_runV (As := []) (rest := []) ⟨hx, hb, hml, hown, hts⟩ (m_X11_comesBack l D ct S ws_41 ph xx mo mw ma mf m0 m1 mu mv u0 u1 iz mb th1_4 mn mpt mbg mwr mwk mlf y_19 f_20 G fa1_16 _ hT h_mu h_mv h_u0 h_u1 hph hy1 hy11 hp_17.1) (cm_V 0 hts kc_X11_comesBack ki_RX11 kl_RX11_385 kv_X11_comesBack kx_X11_comesBack kd_X11_comesBack ⟨Nat.le_of_ble_eq_true rfl, Nat.le_of_ble_eq_true rfl⟩) (ty_preE (wr := []) (wc := ([(rf_MO mo mw ma mf m0 m1 mu mv u0 u1 iz th1_4 mb mn mpt mbg mwr mwk mlf y_19), (rf_RW ct 0 mw 958 f_20), (rf_RW ct 0 ma 958 fa1_16)] ++ ws_41)) (ci := 11) (q0 := 0) hP hK hD hS hA hX rfl rfl) rfl rfl hl.1 rfl (lv_room (Nat.le_of_ble_eq_true rfl)) dX11_stepEndsIn_75 ⟨Nat.le_of_ble_eq_true rfl, Nat.le_of_ble_eq_true rfl⟩) hP hD hS hA (fun u H locs hw_55 hP hD hS => ?_)
            obtain ⟨ws_56, f1_57⟩ := u
            obtain ⟨hT, hp_58⟩ := hw_55
            have hp_58 : rf_R G (-1) f1_57 ∧ f1_57 8 = fa1_16 8 := hp_58
            have hR_59 := hp_58.1
            have hP : va_P D vwCl ([(rf_MO mo mw ma mf m0 m1 mu mv u0 u1 iz th1_4 mb mn mpt mbg mwr mwk mlf y_19), (rf_RW ct 0 mw 958 f1_57), (rf_RW ct 0 ma 958 fa1_16)] ++ ws_56) H := hP
            have hD : va_D A ([(rf_MO mo mw ma mf m0 m1 mu mv u0 u1 iz th1_4 mb mn mpt mbg mwr mwk mlf y_19), (rf_RW ct 0 mw 958 f1_57), (rf_RW ct 0 ma 958 fa1_16)] ++ ws_56) := hD
            have hD_61 := rf_dg (rf_dr f) hp_17.2 hp_58.2
            refine lv_iload_n hx hb dX11_stepEndsIn_78 rfl (lv_at hl 0 rfl) ?_
            exact W.iret (v := y_18) hx hb hr (fun t ht hW => ⟨⟨y_18, (ws_56, y_19, th1_4, f1_57, fa1_16), rfl, ⟨hT, ⟨hD_61, hR_59⟩⟩, by rw [ht]; exact hP, by rw [hAe]; exact hD⟩, hS.F ht⟩) hS.2.2 dX11_stepEndsIn_79
        · refine lv_if_eq (tgt := 61) hx hb dX11_stepEndsIn_40 (by decide) (fun hc => absurd hc (by decide)) (fun _ => ?_)
          refine lv_iload_n hx hb dX11_stepEndsIn_43 rfl (lv_at hl 2 rfl) ?_
          refine lv_sipush (v := 20000) hx hb dX11_stepEndsIn_44 (by decide) ?_
          refine lv_icmp_ge (tgt := 61) hx hb dX11_stepEndsIn_47 (by decide) (fun hc_62 => ?_) (fun hc_62 => ?_)
          · refine lv_aload_n hx hb dX11_stepEndsIn_61 rfl (lv_at hl 0 rfl) ?_
            refine va_get (v := .int y_19) (D := D) (ci := 11) (C := RX11) (T := TX11) (N := 19) hx hb hts in_X11 hown hK hP 1 rfl rfl 18 (by decide) (hts _ kl_RX11_300) (fun _ h9 => h9) rfl dX11_stepEndsIn_62 ?_
            refine lv_if_le (tgt := 72) hx hb dX11_stepEndsIn_65 (by decide) (fun hc_63 => ?_) (fun hc_63 => ?_)
            · refine lv_iconst (v := (-1)) hx hb dX11_stepEndsIn_72 (by decide) ?_
              refine lv_istore_n (lv' := [(3, .int (-1)), (0, .ref mo), (1, .int p1), (2, .int y_18)]) hx hb dX11_stepEndsIn_73 rfl hl (by decide) rfl (fun ls hl => ?_)
              refine lv_aload_n hx hb dX11_stepEndsIn_74 rfl (lv_at hl 1 rfl) ?_
              have hP : va_P D vwCl ([(rf_MO mo mw ma mf m0 m1 mu mv u0 u1 iz th1_4 mb mn mpt mbg mwr mwk mlf y_19), (rf_RW ct 0 mw 958 f_20), (rf_RW ct 0 ma 958 fa1_16)] ++ ws_41) H := ty_permP hP (ty_ordp (E := [(rf_RW ct 0 ma 958 fa1_16), (rf_MO mo mw ma mf m0 m1 mu mv u0 u1 iz th1_4 mb mn mpt mbg mwr mwk mlf y_19), (rf_RW ct 0 mw 958 f_20)]) (E2 := [(rf_MO mo mw ma mf m0 m1 mu mv u0 u1 iz th1_4 mb mn mpt mbg mwr mwk mlf y_19), (rf_RW ct 0 mw 958 f_20), (rf_RW ct 0 ma 958 fa1_16)]) (n := 3) [1, 2, 0] rfl rfl (by decide))
              have hD : va_D A ([(rf_MO mo mw ma mf m0 m1 mu mv u0 u1 iz th1_4 mb mn mpt mbg mwr mwk mlf y_19), (rf_RW ct 0 mw 958 f_20), (rf_RW ct 0 ma 958 fa1_16)] ++ ws_41) := ty_permD hD (ty_ordp (E := [(rf_RW ct 0 ma 958 fa1_16), (rf_MO mo mw ma mf m0 m1 mu mv u0 u1 iz th1_4 mb mn mpt mbg mwr mwk mlf y_19), (rf_RW ct 0 mw 958 f_20)]) (E2 := [(rf_MO mo mw ma mf m0 m1 mu mv u0 u1 iz th1_4 mb mn mpt mbg mwr mwk mlf y_19), (rf_RW ct 0 mw 958 f_20), (rf_RW ct 0 ma 958 fa1_16)]) (n := 3) [1, 2, 0] rfl rfl (by decide))
              refine ty_kv (wr := []) (wc := ([(rf_MO mo mw ma mf m0 m1 mu mv u0 u1 iz th1_4 mb mn mpt mbg mwr mwk mlf y_19), (rf_RW ct 0 mw 958 f_20), (rf_RW ct 0 ma 958 fa1_16)] ++ ws_41)) (va_runV (As := []) (rest := []) ⟨hx, hb, hml, hown, hts⟩ (m_X11_comesBack l D ct S ws_41 ph xx mo mw ma mf m0 m1 mu mv u0 u1 iz mb th1_4 mn mpt mbg mwr mwk mlf y_19 f_20 G fa1_16 _ hT h_mu h_mv h_u0 h_u1 hph hy1 hy11 hp_17.1) (cm_V 0 hts kc_X11_comesBack ki_RX11 kl_RX11_385 kv_X11_comesBack kx_X11_comesBack kd_X11_comesBack ⟨Nat.le_of_ble_eq_true rfl, Nat.le_of_ble_eq_true rfl⟩) (ty_preE (wr := []) (wc := ([(rf_MO mo mw ma mf m0 m1 mu mv u0 u1 iz th1_4 mb mn mpt mbg mwr mwk mlf y_19), (rf_RW ct 0 mw 958 f_20), (rf_RW ct 0 ma 958 fa1_16)] ++ ws_41)) (ci := 11) (q0 := 0) hP hK hD hS hA hX rfl rfl) rfl rfl hl.1 rfl (lv_room (Nat.le_of_ble_eq_true rfl)) dX11_stepEndsIn_75 ⟨Nat.le_of_ble_eq_true rfl, Nat.le_of_ble_eq_true rfl⟩) hP hD hS hA (fun u H locs hw_65 hP hD hS => ?_)
              obtain ⟨ws_66, f1_67⟩ := u
              obtain ⟨hT, hp_68⟩ := hw_65
              have hp_68 : rf_R G (-1) f1_67 ∧ f1_67 8 = fa1_16 8 := hp_68
              have hR_69 := hp_68.1
              have hP : va_P D vwCl ([(rf_MO mo mw ma mf m0 m1 mu mv u0 u1 iz th1_4 mb mn mpt mbg mwr mwk mlf y_19), (rf_RW ct 0 mw 958 f1_67), (rf_RW ct 0 ma 958 fa1_16)] ++ ws_66) H := hP
              have hD : va_D A ([(rf_MO mo mw ma mf m0 m1 mu mv u0 u1 iz th1_4 mb mn mpt mbg mwr mwk mlf y_19), (rf_RW ct 0 mw 958 f1_67), (rf_RW ct 0 ma 958 fa1_16)] ++ ws_66) := hD
              have hD_71 := rf_dg (rf_dr f) hp_17.2 hp_68.2
              refine lv_iload_n hx hb dX11_stepEndsIn_78 rfl (lv_at hl 0 rfl) ?_
              exact W.iret (v := (-1)) hx hb hr (fun t ht hW => ⟨⟨(-1), (ws_66, y_19, th1_4, f1_67, fa1_16), rfl, ⟨hT, ⟨hD_71, hR_69⟩⟩, by rw [ht]; exact hP, by rw [hAe]; exact hD⟩, hS.F ht⟩) hS.2.2 dX11_stepEndsIn_79
            · refine lv_iload_n hx hb dX11_stepEndsIn_68 rfl (lv_at hl 2 rfl) ?_
              refine lv_goto (tgt := 73) hx hb dX11_stepEndsIn_69 (by decide) ?_
              refine lv_istore_n (lv' := [(3, .int y_18), (0, .ref mo), (1, .int p1), (2, .int y_18)]) hx hb dX11_stepEndsIn_73 rfl hl (by decide) rfl (fun ls hl => ?_)
              refine lv_aload_n hx hb dX11_stepEndsIn_74 rfl (lv_at hl 1 rfl) ?_
              have hP : va_P D vwCl ([(rf_MO mo mw ma mf m0 m1 mu mv u0 u1 iz th1_4 mb mn mpt mbg mwr mwk mlf y_19), (rf_RW ct 0 mw 958 f_20), (rf_RW ct 0 ma 958 fa1_16)] ++ ws_41) H := ty_permP hP (ty_ordp (E := [(rf_RW ct 0 ma 958 fa1_16), (rf_MO mo mw ma mf m0 m1 mu mv u0 u1 iz th1_4 mb mn mpt mbg mwr mwk mlf y_19), (rf_RW ct 0 mw 958 f_20)]) (E2 := [(rf_MO mo mw ma mf m0 m1 mu mv u0 u1 iz th1_4 mb mn mpt mbg mwr mwk mlf y_19), (rf_RW ct 0 mw 958 f_20), (rf_RW ct 0 ma 958 fa1_16)]) (n := 3) [1, 2, 0] rfl rfl (by decide))
              have hD : va_D A ([(rf_MO mo mw ma mf m0 m1 mu mv u0 u1 iz th1_4 mb mn mpt mbg mwr mwk mlf y_19), (rf_RW ct 0 mw 958 f_20), (rf_RW ct 0 ma 958 fa1_16)] ++ ws_41) := ty_permD hD (ty_ordp (E := [(rf_RW ct 0 ma 958 fa1_16), (rf_MO mo mw ma mf m0 m1 mu mv u0 u1 iz th1_4 mb mn mpt mbg mwr mwk mlf y_19), (rf_RW ct 0 mw 958 f_20)]) (E2 := [(rf_MO mo mw ma mf m0 m1 mu mv u0 u1 iz th1_4 mb mn mpt mbg mwr mwk mlf y_19), (rf_RW ct 0 mw 958 f_20), (rf_RW ct 0 ma 958 fa1_16)]) (n := 3) [1, 2, 0] rfl rfl (by decide))
              refine ty_kv (wr := []) (wc := ([(rf_MO mo mw ma mf m0 m1 mu mv u0 u1 iz th1_4 mb mn mpt mbg mwr mwk mlf y_19), (rf_RW ct 0 mw 958 f_20), (rf_RW ct 0 ma 958 fa1_16)] ++ ws_41)) (va_runV (As := []) (rest := []) ⟨hx, hb, hml, hown, hts⟩ (m_X11_comesBack l D ct S ws_41 ph xx mo mw ma mf m0 m1 mu mv u0 u1 iz mb th1_4 mn mpt mbg mwr mwk mlf y_19 f_20 G fa1_16 _ hT h_mu h_mv h_u0 h_u1 hph hy1 hy11 hp_17.1) (cm_V 0 hts kc_X11_comesBack ki_RX11 kl_RX11_385 kv_X11_comesBack kx_X11_comesBack kd_X11_comesBack ⟨Nat.le_of_ble_eq_true rfl, Nat.le_of_ble_eq_true rfl⟩) (ty_preE (wr := []) (wc := ([(rf_MO mo mw ma mf m0 m1 mu mv u0 u1 iz th1_4 mb mn mpt mbg mwr mwk mlf y_19), (rf_RW ct 0 mw 958 f_20), (rf_RW ct 0 ma 958 fa1_16)] ++ ws_41)) (ci := 11) (q0 := 0) hP hK hD hS hA hX rfl rfl) rfl rfl hl.1 rfl (lv_room (Nat.le_of_ble_eq_true rfl)) dX11_stepEndsIn_75 ⟨Nat.le_of_ble_eq_true rfl, Nat.le_of_ble_eq_true rfl⟩) hP hD hS hA (fun u H locs hw_73 hP hD hS => ?_)
              obtain ⟨ws_74, f1_75⟩ := u
              obtain ⟨hT, hp_76⟩ := hw_73
              have hp_76 : rf_R G (-1) f1_75 ∧ f1_75 8 = fa1_16 8 := hp_76
              have hR_77 := hp_76.1
              have hP : va_P D vwCl ([(rf_MO mo mw ma mf m0 m1 mu mv u0 u1 iz th1_4 mb mn mpt mbg mwr mwk mlf y_19), (rf_RW ct 0 mw 958 f1_75), (rf_RW ct 0 ma 958 fa1_16)] ++ ws_74) H := hP
              have hD : va_D A ([(rf_MO mo mw ma mf m0 m1 mu mv u0 u1 iz th1_4 mb mn mpt mbg mwr mwk mlf y_19), (rf_RW ct 0 mw 958 f1_75), (rf_RW ct 0 ma 958 fa1_16)] ++ ws_74) := hD
              have hD_79 := rf_dg (rf_dr f) hp_17.2 hp_76.2
              refine lv_iload_n hx hb dX11_stepEndsIn_78 rfl (lv_at hl 0 rfl) ?_
              exact W.iret (v := y_18) hx hb hr (fun t ht hW => ⟨⟨y_18, (ws_74, y_19, th1_4, f1_75, fa1_16), rfl, ⟨hT, ⟨hD_79, hR_77⟩⟩, by rw [ht]; exact hP, by rw [hAe]; exact hD⟩, hS.F ht⟩) hS.2.2 dX11_stepEndsIn_79
          · refine lv_aload_n hx hb dX11_stepEndsIn_50 rfl (lv_at hl 0 rfl) ?_
            refine lv_iload_n hx hb dX11_stepEndsIn_51 rfl (lv_at hl 1 rfl) ?_
            refine ty_kv (wr := [(rf_RW ct 0 ma 958 fa1_16)]) (wc := ([(rf_MO mo mw ma mf m0 m1 mu mv u0 u1 iz th1_4 mb mn mpt mbg mwr mwk mlf y_19), (rf_RW ct 0 mw 958 f_20)] ++ ws_41)) (va_runV (As := [.int p1]) (rest := []) ⟨hx, hb, hml, hown, hts⟩ (m_X11_alone l D ct S ws_41 ph xx mo mw ma mf m0 m1 mu mv u0 u1 iz mb th1_4 mn mpt mbg mwr mwk mlf y_19 f_20 G p1 _ hT h_mu h_mv h_u0 h_u1 hph hy1 hy11 hR_27 hz_6) (cm_V 1 hts kc_X11_alone ki_RX11 kl_RX11_382 kv_X11_alone kx_X11_alone kd_X11_alone ⟨Nat.le_of_ble_eq_true rfl, Nat.le_of_ble_eq_true rfl⟩) (ty_preE (wr := [(rf_RW ct 0 ma 958 fa1_16)]) (wc := ([(rf_MO mo mw ma mf m0 m1 mu mv u0 u1 iz th1_4 mb mn mpt mbg mwr mwk mlf y_19), (rf_RW ct 0 mw 958 f_20)] ++ ws_41)) (ci := 11) (q0 := 1) hP hK hD hS hA hX rfl rfl) rfl rfl hl.1 rfl (lv_room (Nat.le_of_ble_eq_true rfl)) dX11_stepEndsIn_52 ⟨Nat.le_of_ble_eq_true rfl, Nat.le_of_ble_eq_true rfl⟩) hP hD hS hA (fun u H locs hw_81 hP hD hS => ?_)
            obtain ⟨ws_82, men1_83, f1_84⟩ := u
            obtain ⟨hT, hp_85⟩ := hw_81
            have hp_85 : rf_d ((f_20 8) + 1) f_20 f1_84 ∧ rf_R G (-1) f1_84 := hp_85
            obtain ⟨hd_86, hq_87⟩ := hp_85
            have hR_88 := hq_87
            have hP : va_P D vwCl ([(rf_RW ct 0 ma 958 fa1_16), (rf_MO mo mw ma mf m0 m1 mu mv u0 u1 iz th1_4 mb mn mpt mbg mwr mwk mlf men1_83), (rf_RW ct 0 mw 958 f1_84)] ++ ws_82) H := hP
            have hD : va_D A ([(rf_RW ct 0 ma 958 fa1_16), (rf_MO mo mw ma mf m0 m1 mu mv u0 u1 iz th1_4 mb mn mpt mbg mwr mwk mlf men1_83), (rf_RW ct 0 mw 958 f1_84)] ++ ws_82) := hD
            refine lv_iinc (v := (y_18 + Int32.ofInt 1)) (lv' := [(2, .int (y_18 + Int32.ofInt 1)), (0, .ref mo), (1, .int p1)]) hx hb dX11_stepEndsIn_55 hl (k := 2) rfl rfl (by decide) rfl (fun ls hl => ?_)
            refine lv_goto (tgt := 27) hx hb dX11_stepEndsIn_58 (by decide) ?_
            have hP : va_P D vwCl ([(rf_MO mo mw ma mf m0 m1 mu mv u0 u1 iz th1_4 mb mn mpt mbg mwr mwk mlf men1_83), (rf_RW ct 0 mw 958 f1_84), (rf_RW ct 0 ma 958 fa1_16)] ++ ws_82) H := ty_permP hP (ty_ordp (E := [(rf_RW ct 0 ma 958 fa1_16), (rf_MO mo mw ma mf m0 m1 mu mv u0 u1 iz th1_4 mb mn mpt mbg mwr mwk mlf men1_83), (rf_RW ct 0 mw 958 f1_84)]) (E2 := [(rf_MO mo mw ma mf m0 m1 mu mv u0 u1 iz th1_4 mb mn mpt mbg mwr mwk mlf men1_83), (rf_RW ct 0 mw 958 f1_84), (rf_RW ct 0 ma 958 fa1_16)]) (n := 3) [1, 2, 0] rfl rfl (by decide))
            have hD : va_D A ([(rf_MO mo mw ma mf m0 m1 mu mv u0 u1 iz th1_4 mb mn mpt mbg mwr mwk mlf men1_83), (rf_RW ct 0 mw 958 f1_84), (rf_RW ct 0 ma 958 fa1_16)] ++ ws_82) := ty_permD hD (ty_ordp (E := [(rf_RW ct 0 ma 958 fa1_16), (rf_MO mo mw ma mf m0 m1 mu mv u0 u1 iz th1_4 mb mn mpt mbg mwr mwk mlf men1_83), (rf_RW ct 0 mw 958 f1_84)]) (E2 := [(rf_MO mo mw ma mf m0 m1 mu mv u0 u1 iz th1_4 mb mn mpt mbg mwr mwk mlf men1_83), (rf_RW ct 0 mw 958 f1_84), (rf_RW ct 0 ma 958 fa1_16)]) (n := 3) [1, 2, 0] rfl rfl (by decide))
            exact ih_27 _ _ _ _ (ty_inc (cm_lt hc_62)) ⟨ws_82, (y_18 + Int32.ofInt 1), men1_83, f1_84, rfl, hT, hP, hD, hS, (lv_sub hl [1, 2, 0] rfl), hR_88⟩
  · refine lv_if_eq (tgt := 10) hx hb dX11_stepEndsIn_5 (by decide) (fun hc => absurd hc (by decide)) (fun _ => ?_)
    refine lv_iconst (v := 0) hx hb dX11_stepEndsIn_8 (by decide) ?_
    have hP : va_P D vwCl ([(rf_MO mo mw ma mf m0 m1 mu mv u0 u1 iz th1_4 mb mn mpt mbg mwr mwk mlf men), (rf_RW ct 0 mw 958 f), (rf_RW ct 0 ma 958 fa)] ++ ws_3) H := ty_permP hP (ty_ordp (E := [(rf_RW ct 0 ma 958 fa), (rf_MO mo mw ma mf m0 m1 mu mv u0 u1 iz th1_4 mb mn mpt mbg mwr mwk mlf men), (rf_RW ct 0 mw 958 f)]) (E2 := [(rf_MO mo mw ma mf m0 m1 mu mv u0 u1 iz th1_4 mb mn mpt mbg mwr mwk mlf men), (rf_RW ct 0 mw 958 f), (rf_RW ct 0 ma 958 fa)]) (n := 3) [1, 2, 0] rfl rfl (by decide))
    have hD : va_D A ([(rf_MO mo mw ma mf m0 m1 mu mv u0 u1 iz th1_4 mb mn mpt mbg mwr mwk mlf men), (rf_RW ct 0 mw 958 f), (rf_RW ct 0 ma 958 fa)] ++ ws_3) := ty_permD hD (ty_ordp (E := [(rf_RW ct 0 ma 958 fa), (rf_MO mo mw ma mf m0 m1 mu mv u0 u1 iz th1_4 mb mn mpt mbg mwr mwk mlf men), (rf_RW ct 0 mw 958 f)]) (E2 := [(rf_MO mo mw ma mf m0 m1 mu mv u0 u1 iz th1_4 mb mn mpt mbg mwr mwk mlf men), (rf_RW ct 0 mw 958 f), (rf_RW ct 0 ma 958 fa)]) (n := 3) [1, 2, 0] rfl rfl (by decide))
    exact W.iret (v := 0) hx hb hr (fun t ht hW => ⟨⟨0, (ws_3, men, th1_4, f, fa), rfl, ⟨hT, ⟨(rf_dr f), hR⟩⟩, by rw [ht]; exact hP, by rw [hAe]; exact hD⟩, hS.F ht⟩) hS.2.2 dX11_stepEndsIn_9
theorem dX11_valueAfter_0 : decode cX11_valueAfter 0 = .ok (.aload_n 0, 1) := by decide +kernel
theorem dX11_valueAfter_1 : decode cX11_valueAfter 1 = .ok (.iload_n 1, 1) := by decide +kernel
theorem dX11_valueAfter_2 : decode cX11_valueAfter 2 = .ok (.invokevirtual 344, 3) := by decide +kernel
theorem dX11_valueAfter_5 : decode cX11_valueAfter 5 = .ok (.ifCond .ne 40, 3) := by decide +kernel
theorem dX11_valueAfter_8 : decode cX11_valueAfter 8 = .ok (.aload_n 0, 1) := by decide +kernel
theorem dX11_valueAfter_9 : decode cX11_valueAfter 9 = .ok (.iload_n 2, 1) := by decide +kernel
theorem dX11_valueAfter_10 : decode cX11_valueAfter 10 = .ok (.i2l, 1) := by decide +kernel
theorem dX11_valueAfter_11 : decode cX11_valueAfter 11 = .ok (.lconst 0, 1) := by decide +kernel
theorem dX11_valueAfter_12 : decode cX11_valueAfter 12 = .ok (.ldc2_w 117, 3) := by decide +kernel
theorem dX11_valueAfter_15 : decode cX11_valueAfter 15 = .ok (.invokestatic 70, 3) := by decide +kernel
theorem dX11_valueAfter_18 : decode cX11_valueAfter 18 = .ok (.ifCond .eq 15, 3) := by decide +kernel
theorem dX11_valueAfter_21 : decode cX11_valueAfter 21 = .ok (.iload_n 3, 1) := by decide +kernel
theorem dX11_valueAfter_22 : decode cX11_valueAfter 22 = .ok (.i2l, 1) := by decide +kernel
theorem dX11_valueAfter_23 : decode cX11_valueAfter 23 = .ok (.lconst 0, 1) := by decide +kernel
theorem dX11_valueAfter_24 : decode cX11_valueAfter 24 = .ok (.ldc2_w 394, 3) := by decide +kernel
theorem dX11_valueAfter_27 : decode cX11_valueAfter 27 = .ok (.invokestatic 70, 3) := by decide +kernel
theorem dX11_valueAfter_30 : decode cX11_valueAfter 30 = .ok (.ifCond .ne 7, 3) := by decide +kernel
theorem dX11_valueAfter_33 : decode cX11_valueAfter 33 = .ok (.iconst 1, 1) := by decide +kernel
theorem dX11_valueAfter_34 : decode cX11_valueAfter 34 = .ok (.goto 4, 3) := by decide +kernel
theorem dX11_valueAfter_37 : decode cX11_valueAfter 37 = .ok (.iconst 0, 1) := by decide +kernel
theorem dX11_valueAfter_38 : decode cX11_valueAfter 38 = .ok (.iconst 2, 1) := by decide +kernel
theorem dX11_valueAfter_39 : decode cX11_valueAfter 39 = .ok (.invokevirtual 328, 3) := by decide +kernel
theorem dX11_valueAfter_42 : decode cX11_valueAfter 42 = .ok (.ifCond .eq 5, 3) := by decide +kernel
theorem dX11_valueAfter_45 : decode cX11_valueAfter 45 = .ok (.iconst 0, 1) := by decide +kernel
theorem dX11_valueAfter_46 : decode cX11_valueAfter 46 = .ok (.ireturn, 1) := by decide +kernel
theorem dX11_valueAfter_47 : decode cX11_valueAfter 47 = .ok (.aload_n 0, 1) := by decide +kernel
theorem dX11_valueAfter_48 : decode cX11_valueAfter 48 = .ok (.invokevirtual 379, 3) := by decide +kernel
theorem dX11_valueAfter_51 : decode cX11_valueAfter 51 = .ok (.iconst 0, 1) := by decide +kernel
theorem dX11_valueAfter_52 : decode cX11_valueAfter 52 = .ok (.istore 4, 2) := by decide +kernel
theorem dX11_valueAfter_54 : decode cX11_valueAfter 54 = .ok (.iload 4, 2) := by decide +kernel
theorem dX11_valueAfter_56 : decode cX11_valueAfter 56 = .ok (.iload_n 3, 1) := by decide +kernel
theorem dX11_valueAfter_57 : decode cX11_valueAfter 57 = .ok (.if_icmp .ge 14, 3) := by decide +kernel
theorem dX11_valueAfter_60 : decode cX11_valueAfter 60 = .ok (.aload_n 0, 1) := by decide +kernel
theorem dX11_valueAfter_61 : decode cX11_valueAfter 61 = .ok (.iload_n 1, 1) := by decide +kernel
theorem dX11_valueAfter_62 : decode cX11_valueAfter 62 = .ok (.invokevirtual 382, 3) := by decide +kernel
theorem dX11_valueAfter_65 : decode cX11_valueAfter 65 = .ok (.iinc 4 1, 3) := by decide +kernel
theorem dX11_valueAfter_68 : decode cX11_valueAfter 68 = .ok (.goto (-14), 3) := by decide +kernel
theorem dX11_valueAfter_71 : decode cX11_valueAfter 71 = .ok (.aload_n 0, 1) := by decide +kernel
theorem dX11_valueAfter_72 : decode cX11_valueAfter 72 = .ok (.iload_n 1, 1) := by decide +kernel
theorem dX11_valueAfter_73 : decode cX11_valueAfter 73 = .ok (.iload_n 2, 1) := by decide +kernel
theorem dX11_valueAfter_74 : decode cX11_valueAfter 74 = .ok (.invokevirtual 209, 3) := by decide +kernel
theorem dX11_valueAfter_77 : decode cX11_valueAfter 77 = .ok (.istore 4, 2) := by decide +kernel
theorem dX11_valueAfter_79 : decode cX11_valueAfter 79 = .ok (.aload_n 0, 1) := by decide +kernel
theorem dX11_valueAfter_80 : decode cX11_valueAfter 80 = .ok (.invokevirtual 385, 3) := by decide +kernel
theorem dX11_valueAfter_83 : decode cX11_valueAfter 83 = .ok (.iload 4, 2) := by decide +kernel
theorem dX11_valueAfter_85 : decode cX11_valueAfter 85 = .ok (.ireturn, 1) := by decide +kernel
set_option maxRecDepth 100000 in
set_option maxHeartbeats 4000000 in
theorem m_X11_valueAfter (l : Launch) (D : va_G) (ct : Nat → ClassId) (S : ty_S) (ws : va_W) (ph : va_W → Prop) (xx : Nat → Nat → Nat → Prop) (mo : Nat) (mw : Nat) (ma : Nat) (mf : Nat) (m0 : Nat) (m1 : Nat) (mu : Nat) (mv : Nat) (u0 : Nat) (u1 : Nat) (iz : Nat) (mb : Nat) (th : Int32) (mn : Int32) (mpt : Int32) (mbg : Int32) (mwr : Int32) (mwk : Int32) (mlf : Int32) (men : Int32) (f : Nat → Int32) (G : Nat → Int32) (fa : Nat → Int32) (p1 : Int32) (p2 : Int32) (p3 : Int32) (sz : Nat) (hT : ty_V ct S ph ws) (h_mu : S mu = some (.inr (1, 42))) (h_mv : S mv = some (.inr (1, 42))) (h_u0 : S u0 = some (.inr (1, 42))) (h_u1 : S u1 = some (.inr (1, 42))) (hph : ty_C ph xx) (hy1 : ty_y1 xx) (hy11 : ty_y0 xx 11) (hR : rf_R G (-1) f) : Met l yX11_valueAfter (ws_ yX11_valueAfter cX11_valueAfter 5 (some .int)) ({ frames := 8, cells := 0, slots := 0, locals := 186 } : Room) (va_Pc [.ref mo, .int p1, .int p2, .int p3] (cmP D ct sz ([(rf_MO mo mw ma mf m0 m1 mu mv u0 u1 iz th mb mn mpt mbg mwr mwk mlf men), (rf_RW ct 0 mw 958 f), (rf_RW ct 0 ma 958 fa)] ++ ws))) (va_Qi (fun (r : Int32) (u : va_W × Int32 × Int32 × (Nat → Int32) × (Nat → Int32)) => match u with | (u9, men1, th1, f1, fa1) => ty_V ct S ph u9 ∧ rf_d (f 8) f f1 ∧ rf_R G (-1) f1) (cmB D ([(rf_MO mo mw ma mf m0 m1 mu mv u0 u1 iz th mb mn mpt mbg mwr mwk mlf men), (rf_RW ct 0 mw 958 f), (rf_RW ct 0 ma 958 fa)] ++ ws) sz (fun (u : va_W × Int32 × Int32 × (Nat → Int32) × (Nat → Int32)) => match u with | (u9, men1, th1, f1, fa1) => ([(rf_MO mo mw ma mf m0 m1 mu mv u0 u1 iz th1 mb mn mpt mbg mwr mwk mlf men1), (rf_RW ct 0 mw 958 f1), (rf_RW ct 0 ma 958 fa1)] ++ u9))) (va_A ([(rf_MO mo mw ma mf m0 m1 mu mv u0 u1 iz th mb mn mpt mbg mwr mwk mlf men), (rf_RW ct 0 mw 958 f), (rf_RW ct 0 ma 958 fa)] ++ ws) sz)) 0 0 (va_A ([(rf_MO mo mw ma mf m0 m1 mu mv u0 u1 iz th mb mn mpt mbg mwr mwk mlf men), (rf_RW ct 0 mw 958 f), (rf_RW ct 0 ma 958 fa)] ++ ws) sz) := by
  refine Met.ofW (cc := cX11_valueAfter) (maxL := 5) (ret := (some .int)) (by decide) rfl ?_
  intro p e s m args below meth c s₁ B hml hv
  obtain ⟨rfl, hsz, hP, hK, hD0, hX⟩ := hv
  have hx := B.exec
  have hb := B.bytes
  have hr := B.returns
  have hts := ws_all (atoms_spec (ws := ws_ yX11_valueAfter cX11_valueAfter 5 (some .int)) B.pre)
  have hown : s.vm.findClass RX11 = some m.cls := findClass_of_methodNamed B.named
  have hlocks := B.notSynchronized
  subst hsz
  have hD := hD0.self (sz := s.heap.size)
  generalize hAe : va_A ([(rf_MO mo mw ma mf m0 m1 mu mv u0 u1 iz th mb mn mpt mbg mwr mwk mlf men), (rf_RW ct 0 mw 958 f), (rf_RW ct 0 ma 958 fa)] ++ ws) s.heap.size = A at hD hX ⊢
  have hA : ∀ q : Nat, s.heap.size ≤ q → A q := fun q h => by rw [← hAe]; exact Or.inr h
  have hS : va_S A s.heap s.heap [] := va_S.rf
  have hl := lv_entry ([.ref mo, .int p1, .int p2, .int p3]) (n := 5) (Nat.le_of_ble_eq_true rfl)
  rw [lg_entry_eq]
  generalize (lg_sl ([.ref mo, .int p1, .int p2, .int p3]) ++ List.replicate (5 - (lg_sl ([.ref mo, .int p1, .int p2, .int p3])).length) Slot.unset).toArray = ls at hl ⊢
  have hl : lv_has ls 5 [(0, .ref mo), (1, .int p1), (2, .int p2), (3, .int p3)] := hl
  refine lv_aload_n hx hb dX11_valueAfter_0 rfl (lv_at hl 0 rfl) ?_
  refine lv_iload_n hx hb dX11_valueAfter_1 rfl (lv_at hl 1 rfl) ?_
  have hP : va_P D vwCl ([(rf_RW ct 0 ma 958 fa), (rf_MO mo mw ma mf m0 m1 mu mv u0 u1 iz th mb mn mpt mbg mwr mwk mlf men), (rf_RW ct 0 mw 958 f)] ++ ws) s.heap := ty_permP hP (ty_ordp (E := [(rf_MO mo mw ma mf m0 m1 mu mv u0 u1 iz th mb mn mpt mbg mwr mwk mlf men), (rf_RW ct 0 mw 958 f), (rf_RW ct 0 ma 958 fa)]) (E2 := [(rf_RW ct 0 ma 958 fa), (rf_MO mo mw ma mf m0 m1 mu mv u0 u1 iz th mb mn mpt mbg mwr mwk mlf men), (rf_RW ct 0 mw 958 f)]) (n := 3) [2, 0, 1] rfl rfl (by decide))
  have hD : va_D A ([(rf_RW ct 0 ma 958 fa), (rf_MO mo mw ma mf m0 m1 mu mv u0 u1 iz th mb mn mpt mbg mwr mwk mlf men), (rf_RW ct 0 mw 958 f)] ++ ws) := ty_permD hD (ty_ordp (E := [(rf_MO mo mw ma mf m0 m1 mu mv u0 u1 iz th mb mn mpt mbg mwr mwk mlf men), (rf_RW ct 0 mw 958 f), (rf_RW ct 0 ma 958 fa)]) (E2 := [(rf_RW ct 0 ma 958 fa), (rf_MO mo mw ma mf m0 m1 mu mv u0 u1 iz th mb mn mpt mbg mwr mwk mlf men), (rf_RW ct 0 mw 958 f)]) (n := 3) [2, 0, 1] rfl rfl (by decide))
  refine ty_ki (wr := [(rf_RW ct 0 ma 958 fa)]) (wc := ([(rf_MO mo mw ma mf m0 m1 mu mv u0 u1 iz th mb mn mpt mbg mwr mwk mlf men), (rf_RW ct 0 mw 958 f)] ++ ws)) (va_runV (As := [.int p1]) (rest := []) ⟨hx, hb, hml, hown, hts⟩ (m_X11_noChannel l D ct S ws ph xx mo mw ma mf m0 m1 mu mv u0 u1 iz mb th mn mpt mbg mwr mwk mlf men f G (-1) p1 _ hT h_mu h_mv h_u0 h_u1 hph hy1 hR) (cm_V 1 hts kc_X11_noChannel ki_RX11 kl_RX11_344 kv_X11_noChannel kx_X11_noChannel kd_X11_noChannel ⟨Nat.le_of_ble_eq_true rfl, Nat.le_of_ble_eq_true rfl⟩) (ty_preE (wr := [(rf_RW ct 0 ma 958 fa)]) (wc := ([(rf_MO mo mw ma mf m0 m1 mu mv u0 u1 iz th mb mn mpt mbg mwr mwk mlf men), (rf_RW ct 0 mw 958 f)] ++ ws)) (ci := 11) (q0 := 1) hP hK hD hS hA hX rfl rfl) rfl rfl hl.1 rfl (lv_room (Nat.le_of_ble_eq_true rfl)) dX11_valueAfter_2 ⟨Nat.le_of_ble_eq_true rfl, Nat.le_of_ble_eq_true rfl⟩) hP hD hS hA (fun r_1 u H locs hw_2 hP hD hS => ?_)
  obtain ⟨ws_3, th1_4⟩ := u
  obtain ⟨hT, hp_5⟩ := hw_2
  have hp_5 : ((r_1 = 0 ∧ 0 ≤ p1.toInt ∧ p1.toInt < (G 9).toInt) ∨ r_1 = 1) := hp_5
  have hP : va_P D vwCl ([(rf_RW ct 0 ma 958 fa), (rf_MO mo mw ma mf m0 m1 mu mv u0 u1 iz th1_4 mb mn mpt mbg mwr mwk mlf men), (rf_RW ct 0 mw 958 f)] ++ ws_3) H := hP
  have hD : va_D A ([(rf_RW ct 0 ma 958 fa), (rf_MO mo mw ma mf m0 m1 mu mv u0 u1 iz th1_4 mb mn mpt mbg mwr mwk mlf men), (rf_RW ct 0 mw 958 f)] ++ ws_3) := hD
  rcases hp_5 with ⟨rfl, hz_6⟩ | rfl
  · refine lv_if_ne (tgt := 45) hx hb dX11_valueAfter_5 (by decide) (fun hc => absurd (by decide) hc) (fun _ => ?_)
    refine lv_aload_n hx hb dX11_valueAfter_8 rfl (lv_at hl 0 rfl) ?_
    refine lv_iload_n hx hb dX11_valueAfter_9 rfl (lv_at hl 2 rfl) ?_
    refine lv_i2l hx hb dX11_valueAfter_10 rfl ?_
    refine lv_lconst (v := 0) hx hb dX11_valueAfter_11 (by decide) ?_
    refine lv_ldc2 hx hb hown (hts _ kl_RX11_117) dX11_valueAfter_12 ?_
    refine ty_ki (wr := [(rf_RW ct 0 ma 958 fa), (rf_MO mo mw ma mf m0 m1 mu mv u0 u1 iz th1_4 mb mn mpt mbg mwr mwk mlf men), (rf_RW ct 0 mw 958 f)]) (wc := ([] ++ ws_3)) (va_runS (As := [.long p2.toInt64, .long 0, .long 10]) (rest := [.ref mo]) ⟨hx, hb, hml, hown, hts⟩ (m_X11_in l D ct S ws_3 ph xx p2.toInt64 (0 : Int64) (10 : Int64) _ hT hph hy1) (cm_S 3 hts kc_X11_in ki_RX11 kl_RX11_70 ks_X11_in kd_X11_in ⟨Nat.le_of_ble_eq_true rfl, Nat.le_of_ble_eq_true rfl⟩) (ty_preS (wr := [(rf_RW ct 0 ma 958 fa), (rf_MO mo mw ma mf m0 m1 mu mv u0 u1 iz th1_4 mb mn mpt mbg mwr mwk mlf men), (rf_RW ct 0 mw 958 f)]) (wc := ([] ++ ws_3)) hP hK hD hS hA hX) rfl rfl hl.1 rfl (lv_room (Nat.le_of_ble_eq_true rfl)) dX11_valueAfter_15 ⟨Nat.le_of_ble_eq_true rfl, Nat.le_of_ble_eq_true rfl⟩) hP hD hS hA (fun r_7 u H locs hw_8 hP hD hS => ?_)
    obtain ⟨ws_9, rfl⟩ : ∃ z, z = u := ⟨_, rfl⟩
    obtain ⟨hT, rfl⟩ := hw_8
    have hP : va_P D vwCl ([(rf_RW ct 0 ma 958 fa), (rf_MO mo mw ma mf m0 m1 mu mv u0 u1 iz th1_4 mb mn mpt mbg mwr mwk mlf men), (rf_RW ct 0 mw 958 f)] ++ ws_9) H := hP
    have hD : va_D A ([(rf_RW ct 0 ma 958 fa), (rf_MO mo mw ma mf m0 m1 mu mv u0 u1 iz th1_4 mb mn mpt mbg mwr mwk mlf men), (rf_RW ct 0 mw 958 f)] ++ ws_9) := hD
    refine lv_if_eq (tgt := 33) hx hb dX11_valueAfter_18 (by decide) (fun hc_10 => ?_) (fun hc_10 => ?_)
    · refine lv_iconst (v := 1) hx hb dX11_valueAfter_33 (by decide) ?_
      refine lv_goto (tgt := 38) hx hb dX11_valueAfter_34 (by decide) ?_
      refine lv_iconst (v := 2) hx hb dX11_valueAfter_38 (by decide) ?_
      have hP : va_P D vwCl ([(rf_RW ct 0 ma 958 fa), (rf_RW ct 0 mw 958 f), (rf_MO mo mw ma mf m0 m1 mu mv u0 u1 iz th1_4 mb mn mpt mbg mwr mwk mlf men)] ++ ws_9) H := ty_permP hP (ty_ordp (E := [(rf_RW ct 0 ma 958 fa), (rf_MO mo mw ma mf m0 m1 mu mv u0 u1 iz th1_4 mb mn mpt mbg mwr mwk mlf men), (rf_RW ct 0 mw 958 f)]) (E2 := [(rf_RW ct 0 ma 958 fa), (rf_RW ct 0 mw 958 f), (rf_MO mo mw ma mf m0 m1 mu mv u0 u1 iz th1_4 mb mn mpt mbg mwr mwk mlf men)]) (n := 3) [0, 2, 1] rfl rfl (by decide))
      have hD : va_D A ([(rf_RW ct 0 ma 958 fa), (rf_RW ct 0 mw 958 f), (rf_MO mo mw ma mf m0 m1 mu mv u0 u1 iz th1_4 mb mn mpt mbg mwr mwk mlf men)] ++ ws_9) := ty_permD hD (ty_ordp (E := [(rf_RW ct 0 ma 958 fa), (rf_MO mo mw ma mf m0 m1 mu mv u0 u1 iz th1_4 mb mn mpt mbg mwr mwk mlf men), (rf_RW ct 0 mw 958 f)]) (E2 := [(rf_RW ct 0 ma 958 fa), (rf_RW ct 0 mw 958 f), (rf_MO mo mw ma mf m0 m1 mu mv u0 u1 iz th1_4 mb mn mpt mbg mwr mwk mlf men)]) (n := 3) [0, 2, 1] rfl rfl (by decide))
      refine ty_ki (wr := [(rf_RW ct 0 ma 958 fa), (rf_RW ct 0 mw 958 f)]) (wc := ([(rf_MO mo mw ma mf m0 m1 mu mv u0 u1 iz th1_4 mb mn mpt mbg mwr mwk mlf men)] ++ ws_9)) (va_runV (As := [.int 1, .int 2]) (rest := []) ⟨hx, hb, hml, hown, hts⟩ (m_X11_throwsIf l D ct S ws_9 ph xx mo mw ma mf m0 m1 mu mv u0 u1 iz mb th1_4 mn mpt mbg mwr mwk mlf men (1 : Int32) (2 : Int32) _ hT h_mu h_mv h_u0 h_u1 hph hy1 (by decide)) (cm_V 2 hts kc_X11_throwsIf ki_RX11 kl_RX11_328 kv_X11_throwsIf kx_X11_throwsIf kd_X11_throwsIf ⟨Nat.le_of_ble_eq_true rfl, Nat.le_of_ble_eq_true rfl⟩) (ty_preE (wr := [(rf_RW ct 0 ma 958 fa), (rf_RW ct 0 mw 958 f)]) (wc := ([(rf_MO mo mw ma mf m0 m1 mu mv u0 u1 iz th1_4 mb mn mpt mbg mwr mwk mlf men)] ++ ws_9)) (ci := 11) (q0 := 2) hP hK hD hS hA hX rfl rfl) rfl rfl hl.1 rfl (lv_room (Nat.le_of_ble_eq_true rfl)) dX11_valueAfter_39 ⟨Nat.le_of_ble_eq_true rfl, Nat.le_of_ble_eq_true rfl⟩) hP hD hS hA (fun r_11 u H locs hw_12 hP hD hS => ?_)
      obtain ⟨ws_13, th1_14⟩ := u
      obtain ⟨hT, hp_15⟩ := hw_12
      have hp_15 : ((r_11 = 0 ∧ (1 : Int32) = 0) ∨ r_11 = 1) := hp_15
      have hP : va_P D vwCl ([(rf_RW ct 0 ma 958 fa), (rf_RW ct 0 mw 958 f), (rf_MO mo mw ma mf m0 m1 mu mv u0 u1 iz th1_14 mb mn mpt mbg mwr mwk mlf men)] ++ ws_13) H := hP
      have hD : va_D A ([(rf_RW ct 0 ma 958 fa), (rf_RW ct 0 mw 958 f), (rf_MO mo mw ma mf m0 m1 mu mv u0 u1 iz th1_14 mb mn mpt mbg mwr mwk mlf men)] ++ ws_13) := hD
      rcases hp_15 with ⟨rfl, hz_16⟩ | rfl
      · exact absurd hz_16 (by decide)
      · refine lv_if_eq (tgt := 47) hx hb dX11_valueAfter_42 (by decide) (fun hc => absurd hc (by decide)) (fun _ => ?_)
        refine lv_iconst (v := 0) hx hb dX11_valueAfter_45 (by decide) ?_
        have hP : va_P D vwCl ([(rf_MO mo mw ma mf m0 m1 mu mv u0 u1 iz th1_14 mb mn mpt mbg mwr mwk mlf men), (rf_RW ct 0 mw 958 f), (rf_RW ct 0 ma 958 fa)] ++ ws_13) H := ty_permP hP (ty_ordp (E := [(rf_RW ct 0 ma 958 fa), (rf_RW ct 0 mw 958 f), (rf_MO mo mw ma mf m0 m1 mu mv u0 u1 iz th1_14 mb mn mpt mbg mwr mwk mlf men)]) (E2 := [(rf_MO mo mw ma mf m0 m1 mu mv u0 u1 iz th1_14 mb mn mpt mbg mwr mwk mlf men), (rf_RW ct 0 mw 958 f), (rf_RW ct 0 ma 958 fa)]) (n := 3) [2, 1, 0] rfl rfl (by decide))
        have hD : va_D A ([(rf_MO mo mw ma mf m0 m1 mu mv u0 u1 iz th1_14 mb mn mpt mbg mwr mwk mlf men), (rf_RW ct 0 mw 958 f), (rf_RW ct 0 ma 958 fa)] ++ ws_13) := ty_permD hD (ty_ordp (E := [(rf_RW ct 0 ma 958 fa), (rf_RW ct 0 mw 958 f), (rf_MO mo mw ma mf m0 m1 mu mv u0 u1 iz th1_14 mb mn mpt mbg mwr mwk mlf men)]) (E2 := [(rf_MO mo mw ma mf m0 m1 mu mv u0 u1 iz th1_14 mb mn mpt mbg mwr mwk mlf men), (rf_RW ct 0 mw 958 f), (rf_RW ct 0 ma 958 fa)]) (n := 3) [2, 1, 0] rfl rfl (by decide))
        exact W.iret (v := 0) hx hb hr (fun t ht hW => ⟨⟨0, (ws_13, men, th1_14, f, fa), rfl, ⟨hT, ⟨(rf_dr f), hR⟩⟩, by rw [ht]; exact hP, by rw [hAe]; exact hD⟩, hS.F ht⟩) hS.2.2 dX11_valueAfter_46
    · refine lv_iload_n hx hb dX11_valueAfter_21 rfl (lv_at hl 3 rfl) ?_
      refine lv_i2l hx hb dX11_valueAfter_22 rfl ?_
      refine lv_lconst (v := 0) hx hb dX11_valueAfter_23 (by decide) ?_
      refine lv_ldc2 hx hb hown (hts _ kl_RX11_394) dX11_valueAfter_24 ?_
      refine ty_ki (wr := [(rf_RW ct 0 ma 958 fa), (rf_MO mo mw ma mf m0 m1 mu mv u0 u1 iz th1_4 mb mn mpt mbg mwr mwk mlf men), (rf_RW ct 0 mw 958 f)]) (wc := ([] ++ ws_9)) (va_runS (As := [.long p3.toInt64, .long 0, .long 10000]) (rest := [.ref mo]) ⟨hx, hb, hml, hown, hts⟩ (m_X11_in l D ct S ws_9 ph xx p3.toInt64 (0 : Int64) (10000 : Int64) _ hT hph hy1) (cm_S 3 hts kc_X11_in ki_RX11 kl_RX11_70 ks_X11_in kd_X11_in ⟨Nat.le_of_ble_eq_true rfl, Nat.le_of_ble_eq_true rfl⟩) (ty_preS (wr := [(rf_RW ct 0 ma 958 fa), (rf_MO mo mw ma mf m0 m1 mu mv u0 u1 iz th1_4 mb mn mpt mbg mwr mwk mlf men), (rf_RW ct 0 mw 958 f)]) (wc := ([] ++ ws_9)) hP hK hD hS hA hX) rfl rfl hl.1 rfl (lv_room (Nat.le_of_ble_eq_true rfl)) dX11_valueAfter_27 ⟨Nat.le_of_ble_eq_true rfl, Nat.le_of_ble_eq_true rfl⟩) hP hD hS hA (fun r_17 u H locs hw_18 hP hD hS => ?_)
      obtain ⟨ws_19, rfl⟩ : ∃ z, z = u := ⟨_, rfl⟩
      obtain ⟨hT, rfl⟩ := hw_18
      have hP : va_P D vwCl ([(rf_RW ct 0 ma 958 fa), (rf_MO mo mw ma mf m0 m1 mu mv u0 u1 iz th1_4 mb mn mpt mbg mwr mwk mlf men), (rf_RW ct 0 mw 958 f)] ++ ws_19) H := hP
      have hD : va_D A ([(rf_RW ct 0 ma 958 fa), (rf_MO mo mw ma mf m0 m1 mu mv u0 u1 iz th1_4 mb mn mpt mbg mwr mwk mlf men), (rf_RW ct 0 mw 958 f)] ++ ws_19) := hD
      refine lv_if_ne (tgt := 37) hx hb dX11_valueAfter_30 (by decide) (fun hc_20 => ?_) (fun hc_20 => ?_)
      · refine lv_iconst (v := 0) hx hb dX11_valueAfter_37 (by decide) ?_
        refine lv_iconst (v := 2) hx hb dX11_valueAfter_38 (by decide) ?_
        have hP : va_P D vwCl ([(rf_RW ct 0 ma 958 fa), (rf_RW ct 0 mw 958 f), (rf_MO mo mw ma mf m0 m1 mu mv u0 u1 iz th1_4 mb mn mpt mbg mwr mwk mlf men)] ++ ws_19) H := ty_permP hP (ty_ordp (E := [(rf_RW ct 0 ma 958 fa), (rf_MO mo mw ma mf m0 m1 mu mv u0 u1 iz th1_4 mb mn mpt mbg mwr mwk mlf men), (rf_RW ct 0 mw 958 f)]) (E2 := [(rf_RW ct 0 ma 958 fa), (rf_RW ct 0 mw 958 f), (rf_MO mo mw ma mf m0 m1 mu mv u0 u1 iz th1_4 mb mn mpt mbg mwr mwk mlf men)]) (n := 3) [0, 2, 1] rfl rfl (by decide))
        have hD : va_D A ([(rf_RW ct 0 ma 958 fa), (rf_RW ct 0 mw 958 f), (rf_MO mo mw ma mf m0 m1 mu mv u0 u1 iz th1_4 mb mn mpt mbg mwr mwk mlf men)] ++ ws_19) := ty_permD hD (ty_ordp (E := [(rf_RW ct 0 ma 958 fa), (rf_MO mo mw ma mf m0 m1 mu mv u0 u1 iz th1_4 mb mn mpt mbg mwr mwk mlf men), (rf_RW ct 0 mw 958 f)]) (E2 := [(rf_RW ct 0 ma 958 fa), (rf_RW ct 0 mw 958 f), (rf_MO mo mw ma mf m0 m1 mu mv u0 u1 iz th1_4 mb mn mpt mbg mwr mwk mlf men)]) (n := 3) [0, 2, 1] rfl rfl (by decide))
        refine ty_ki (wr := [(rf_RW ct 0 ma 958 fa), (rf_RW ct 0 mw 958 f)]) (wc := ([(rf_MO mo mw ma mf m0 m1 mu mv u0 u1 iz th1_4 mb mn mpt mbg mwr mwk mlf men)] ++ ws_19)) (va_runV (As := [.int 0, .int 2]) (rest := []) ⟨hx, hb, hml, hown, hts⟩ (m_X11_throwsIf l D ct S ws_19 ph xx mo mw ma mf m0 m1 mu mv u0 u1 iz mb th1_4 mn mpt mbg mwr mwk mlf men (0 : Int32) (2 : Int32) _ hT h_mu h_mv h_u0 h_u1 hph hy1 (by decide)) (cm_V 2 hts kc_X11_throwsIf ki_RX11 kl_RX11_328 kv_X11_throwsIf kx_X11_throwsIf kd_X11_throwsIf ⟨Nat.le_of_ble_eq_true rfl, Nat.le_of_ble_eq_true rfl⟩) (ty_preE (wr := [(rf_RW ct 0 ma 958 fa), (rf_RW ct 0 mw 958 f)]) (wc := ([(rf_MO mo mw ma mf m0 m1 mu mv u0 u1 iz th1_4 mb mn mpt mbg mwr mwk mlf men)] ++ ws_19)) (ci := 11) (q0 := 2) hP hK hD hS hA hX rfl rfl) rfl rfl hl.1 rfl (lv_room (Nat.le_of_ble_eq_true rfl)) dX11_valueAfter_39 ⟨Nat.le_of_ble_eq_true rfl, Nat.le_of_ble_eq_true rfl⟩) hP hD hS hA (fun r_21 u H locs hw_22 hP hD hS => ?_)
        obtain ⟨ws_23, th1_24⟩ := u
        obtain ⟨hT, hp_25⟩ := hw_22
        have hp_25 : ((r_21 = 0 ∧ (0 : Int32) = 0) ∨ r_21 = 1) := hp_25
        have hP : va_P D vwCl ([(rf_RW ct 0 ma 958 fa), (rf_RW ct 0 mw 958 f), (rf_MO mo mw ma mf m0 m1 mu mv u0 u1 iz th1_24 mb mn mpt mbg mwr mwk mlf men)] ++ ws_23) H := hP
        have hD : va_D A ([(rf_RW ct 0 ma 958 fa), (rf_RW ct 0 mw 958 f), (rf_MO mo mw ma mf m0 m1 mu mv u0 u1 iz th1_24 mb mn mpt mbg mwr mwk mlf men)] ++ ws_23) := hD
        rcases hp_25 with ⟨rfl, hz_26⟩ | rfl
        · refine lv_if_eq (tgt := 47) hx hb dX11_valueAfter_42 (by decide) (fun _ => ?_) (fun hc => absurd (by decide) hc)
          refine lv_aload_n hx hb dX11_valueAfter_47 rfl (lv_at hl 0 rfl) ?_
          have hP : va_P D vwCl ([(rf_MO mo mw ma mf m0 m1 mu mv u0 u1 iz th1_24 mb mn mpt mbg mwr mwk mlf men), (rf_RW ct 0 mw 958 f), (rf_RW ct 0 ma 958 fa)] ++ ws_23) H := ty_permP hP (ty_ordp (E := [(rf_RW ct 0 ma 958 fa), (rf_RW ct 0 mw 958 f), (rf_MO mo mw ma mf m0 m1 mu mv u0 u1 iz th1_24 mb mn mpt mbg mwr mwk mlf men)]) (E2 := [(rf_MO mo mw ma mf m0 m1 mu mv u0 u1 iz th1_24 mb mn mpt mbg mwr mwk mlf men), (rf_RW ct 0 mw 958 f), (rf_RW ct 0 ma 958 fa)]) (n := 3) [2, 1, 0] rfl rfl (by decide))
          have hD : va_D A ([(rf_MO mo mw ma mf m0 m1 mu mv u0 u1 iz th1_24 mb mn mpt mbg mwr mwk mlf men), (rf_RW ct 0 mw 958 f), (rf_RW ct 0 ma 958 fa)] ++ ws_23) := ty_permD hD (ty_ordp (E := [(rf_RW ct 0 ma 958 fa), (rf_RW ct 0 mw 958 f), (rf_MO mo mw ma mf m0 m1 mu mv u0 u1 iz th1_24 mb mn mpt mbg mwr mwk mlf men)]) (E2 := [(rf_MO mo mw ma mf m0 m1 mu mv u0 u1 iz th1_24 mb mn mpt mbg mwr mwk mlf men), (rf_RW ct 0 mw 958 f), (rf_RW ct 0 ma 958 fa)]) (n := 3) [2, 1, 0] rfl rfl (by decide))
          refine ty_kv (wr := []) (wc := ([(rf_MO mo mw ma mf m0 m1 mu mv u0 u1 iz th1_24 mb mn mpt mbg mwr mwk mlf men), (rf_RW ct 0 mw 958 f), (rf_RW ct 0 ma 958 fa)] ++ ws_23)) (va_runV (As := []) (rest := []) ⟨hx, hb, hml, hown, hts⟩ (m_X11_goesAside l D ct S ws_23 ph xx mo mw ma mf m0 m1 mu mv u0 u1 iz mb th1_24 mn mpt mbg mwr mwk mlf men f G fa _ hT h_mu h_mv h_u0 h_u1 hph hy1 hy11 hR) (cm_V 0 hts kc_X11_goesAside ki_RX11 kl_RX11_379 kv_X11_goesAside kx_X11_goesAside kd_X11_goesAside ⟨Nat.le_of_ble_eq_true rfl, Nat.le_of_ble_eq_true rfl⟩) (ty_preE (wr := []) (wc := ([(rf_MO mo mw ma mf m0 m1 mu mv u0 u1 iz th1_24 mb mn mpt mbg mwr mwk mlf men), (rf_RW ct 0 mw 958 f), (rf_RW ct 0 ma 958 fa)] ++ ws_23)) (ci := 11) (q0 := 0) hP hK hD hS hA hX rfl rfl) rfl rfl hl.1 rfl (lv_room (Nat.le_of_ble_eq_true rfl)) dX11_valueAfter_48 ⟨Nat.le_of_ble_eq_true rfl, Nat.le_of_ble_eq_true rfl⟩) hP hD hS hA (fun u H locs hw_28 hP hD hS => ?_)
          obtain ⟨ws_29, fa1_30⟩ := u
          obtain ⟨hT, hp_31⟩ := hw_28
          have hp_31 : rf_R G (-1) fa1_30 ∧ fa1_30 8 = f 8 := hp_31
          have hP : va_P D vwCl ([(rf_MO mo mw ma mf m0 m1 mu mv u0 u1 iz th1_24 mb mn mpt mbg mwr mwk mlf (0)), (rf_RW ct 0 mw 958 f), (rf_RW ct 0 ma 958 fa1_30)] ++ ws_29) H := hP
          have hD : va_D A ([(rf_MO mo mw ma mf m0 m1 mu mv u0 u1 iz th1_24 mb mn mpt mbg mwr mwk mlf (0)), (rf_RW ct 0 mw 958 f), (rf_RW ct 0 ma 958 fa1_30)] ++ ws_29) := hD
          refine lv_iconst (v := 0) hx hb dX11_valueAfter_51 (by decide) ?_
          refine lv_istore (lv' := [(4, .int 0), (0, .ref mo), (1, .int p1), (2, .int p2), (3, .int p3)]) hx hb dX11_valueAfter_52 hl (by decide) rfl (fun ls hl => ?_)
          refine ty_loop (I := fun μ H locs ls => ∃ (ws : va_W) (y_32 : Int32) (y_33 : Int32) (f_34 : Nat → Int32), μ = (2147483648 - y_32.toInt).toNat ∧ ty_V ct S ph ws ∧ va_P D vwCl ([(rf_MO mo mw ma mf m0 m1 mu mv u0 u1 iz th1_24 mb mn mpt mbg mwr mwk mlf y_33), (rf_RW ct 0 mw 958 f_34), (rf_RW ct 0 ma 958 fa1_30)] ++ ws) H ∧ va_D A ([(rf_MO mo mw ma mf m0 m1 mu mv u0 u1 iz th1_24 mb mn mpt mbg mwr mwk mlf y_33), (rf_RW ct 0 mw 958 f_34), (rf_RW ct 0 ma 958 fa1_30)] ++ ws) ∧ va_S A s.heap H locs ∧ lv_has ls 5 [(0, .ref mo), (1, .int p1), (2, .int p2), (3, .int p3), (4, .int y_32)] ∧ rf_R G (-1) f_34) ⟨_, ws_29, (0 : Int32), (0 : Int32), f, rfl, hT, hP, hD, hS, (lv_sub hl [1, 2, 3, 4, 0] rfl), hR⟩ (fun μ H locs ls hI ih_54 => ?_)
          obtain ⟨ws, y_32, y_33, f_34, rfl, hT, hP, hD, hS, hl, hR_54⟩ := hI
          refine lv_iload hx hb dX11_valueAfter_54 (lv_at hl 4 rfl) ?_
          refine lv_iload_n hx hb dX11_valueAfter_56 rfl (lv_at hl 3 rfl) ?_
          refine lv_icmp_ge (tgt := 71) hx hb dX11_valueAfter_57 (by decide) (fun hc_35 => ?_) (fun hc_35 => ?_)
          · refine lv_aload_n hx hb dX11_valueAfter_71 rfl (lv_at hl 0 rfl) ?_
            refine lv_iload_n hx hb dX11_valueAfter_72 rfl (lv_at hl 1 rfl) ?_
            refine lv_iload_n hx hb dX11_valueAfter_73 rfl (lv_at hl 2 rfl) ?_
            have hP : va_P D vwCl ([(rf_RW ct 0 ma 958 fa1_30), (rf_MO mo mw ma mf m0 m1 mu mv u0 u1 iz th1_24 mb mn mpt mbg mwr mwk mlf y_33), (rf_RW ct 0 mw 958 f_34)] ++ ws) H := ty_permP hP (ty_ordp (E := [(rf_MO mo mw ma mf m0 m1 mu mv u0 u1 iz th1_24 mb mn mpt mbg mwr mwk mlf y_33), (rf_RW ct 0 mw 958 f_34), (rf_RW ct 0 ma 958 fa1_30)]) (E2 := [(rf_RW ct 0 ma 958 fa1_30), (rf_MO mo mw ma mf m0 m1 mu mv u0 u1 iz th1_24 mb mn mpt mbg mwr mwk mlf y_33), (rf_RW ct 0 mw 958 f_34)]) (n := 3) [2, 0, 1] rfl rfl (by decide))
            have hD : va_D A ([(rf_RW ct 0 ma 958 fa1_30), (rf_MO mo mw ma mf m0 m1 mu mv u0 u1 iz th1_24 mb mn mpt mbg mwr mwk mlf y_33), (rf_RW ct 0 mw 958 f_34)] ++ ws) := ty_permD hD (ty_ordp (E := [(rf_MO mo mw ma mf m0 m1 mu mv u0 u1 iz th1_24 mb mn mpt mbg mwr mwk mlf y_33), (rf_RW ct 0 mw 958 f_34), (rf_RW ct 0 ma 958 fa1_30)]) (E2 := [(rf_RW ct 0 ma 958 fa1_30), (rf_MO mo mw ma mf m0 m1 mu mv u0 u1 iz th1_24 mb mn mpt mbg mwr mwk mlf y_33), (rf_RW ct 0 mw 958 f_34)]) (n := 3) [2, 0, 1] rfl rfl (by decide))
            refine ty_ki (wr := [(rf_RW ct 0 ma 958 fa1_30)]) (wc := ([(rf_MO mo mw ma mf m0 m1 mu mv u0 u1 iz th1_24 mb mn mpt mbg mwr mwk mlf y_33), (rf_RW ct 0 mw 958 f_34)] ++ ws)) (va_runV (As := [.int p1, .int p2]) (rest := []) ⟨hx, hb, hml, hown, hts⟩ (m_of_v l D ct S ws ph xx mo mw ma mf m0 m1 mu mv u0 u1 iz mb th1_24 mn mpt mbg mwr mwk mlf y_33 f_34 G (-1) p1 p2 _ hT h_mu h_mv h_u0 h_u1 hph hy1 hR_54 hz_6 (by have := (rf_rngc (L := 0) (U := 10) (by decide) (by decide) hc_10); omega)) (cm_V 2 hts kc_X11_of ki_RX11 kl_RX11_209 kv_X11_of kx_X11_of kd_X11_of ⟨Nat.le_of_ble_eq_true rfl, Nat.le_of_ble_eq_true rfl⟩) (ty_preE (wr := [(rf_RW ct 0 ma 958 fa1_30)]) (wc := ([(rf_MO mo mw ma mf m0 m1 mu mv u0 u1 iz th1_24 mb mn mpt mbg mwr mwk mlf y_33), (rf_RW ct 0 mw 958 f_34)] ++ ws)) (ci := 11) (q0 := 1) hP hK hD hS hA hX rfl rfl) rfl rfl hl.1 rfl (lv_room (Nat.le_of_ble_eq_true rfl)) dX11_valueAfter_74 ⟨Nat.le_of_ble_eq_true rfl, Nat.le_of_ble_eq_true rfl⟩) hP hD hS hA (fun r_36 u H locs hw_37 hP hD hS => ?_)
            obtain ⟨ws_38, rfl⟩ : ∃ z, z = u := ⟨_, rfl⟩
            obtain ⟨hT, rfl⟩ := hw_37
            have hP : va_P D vwCl ([(rf_RW ct 0 ma 958 fa1_30), (rf_MO mo mw ma mf m0 m1 mu mv u0 u1 iz th1_24 mb mn mpt mbg mwr mwk mlf y_33), (rf_RW ct 0 mw 958 f_34)] ++ ws_38) H := hP
            have hD : va_D A ([(rf_RW ct 0 ma 958 fa1_30), (rf_MO mo mw ma mf m0 m1 mu mv u0 u1 iz th1_24 mb mn mpt mbg mwr mwk mlf y_33), (rf_RW ct 0 mw 958 f_34)] ++ ws_38) := hD
            refine lv_istore (lv' := [(4, .int (rf_of f_34 p1 p2.toInt.toNat)), (0, .ref mo), (1, .int p1), (2, .int p2), (3, .int p3)]) hx hb dX11_valueAfter_77 hl (by decide) rfl (fun ls hl => ?_)
            refine lv_aload_n hx hb dX11_valueAfter_79 rfl (lv_at hl 1 rfl) ?_
            have hP : va_P D vwCl ([(rf_MO mo mw ma mf m0 m1 mu mv u0 u1 iz th1_24 mb mn mpt mbg mwr mwk mlf y_33), (rf_RW ct 0 mw 958 f_34), (rf_RW ct 0 ma 958 fa1_30)] ++ ws_38) H := ty_permP hP (ty_ordp (E := [(rf_RW ct 0 ma 958 fa1_30), (rf_MO mo mw ma mf m0 m1 mu mv u0 u1 iz th1_24 mb mn mpt mbg mwr mwk mlf y_33), (rf_RW ct 0 mw 958 f_34)]) (E2 := [(rf_MO mo mw ma mf m0 m1 mu mv u0 u1 iz th1_24 mb mn mpt mbg mwr mwk mlf y_33), (rf_RW ct 0 mw 958 f_34), (rf_RW ct 0 ma 958 fa1_30)]) (n := 3) [1, 2, 0] rfl rfl (by decide))
            have hD : va_D A ([(rf_MO mo mw ma mf m0 m1 mu mv u0 u1 iz th1_24 mb mn mpt mbg mwr mwk mlf y_33), (rf_RW ct 0 mw 958 f_34), (rf_RW ct 0 ma 958 fa1_30)] ++ ws_38) := ty_permD hD (ty_ordp (E := [(rf_RW ct 0 ma 958 fa1_30), (rf_MO mo mw ma mf m0 m1 mu mv u0 u1 iz th1_24 mb mn mpt mbg mwr mwk mlf y_33), (rf_RW ct 0 mw 958 f_34)]) (E2 := [(rf_MO mo mw ma mf m0 m1 mu mv u0 u1 iz th1_24 mb mn mpt mbg mwr mwk mlf y_33), (rf_RW ct 0 mw 958 f_34), (rf_RW ct 0 ma 958 fa1_30)]) (n := 3) [1, 2, 0] rfl rfl (by decide))
            refine ty_kv (wr := []) (wc := ([(rf_MO mo mw ma mf m0 m1 mu mv u0 u1 iz th1_24 mb mn mpt mbg mwr mwk mlf y_33), (rf_RW ct 0 mw 958 f_34), (rf_RW ct 0 ma 958 fa1_30)] ++ ws_38)) (va_runV (As := []) (rest := []) ⟨hx, hb, hml, hown, hts⟩ (m_X11_comesBack l D ct S ws_38 ph xx mo mw ma mf m0 m1 mu mv u0 u1 iz mb th1_24 mn mpt mbg mwr mwk mlf y_33 f_34 G fa1_30 _ hT h_mu h_mv h_u0 h_u1 hph hy1 hy11 hp_31.1) (cm_V 0 hts kc_X11_comesBack ki_RX11 kl_RX11_385 kv_X11_comesBack kx_X11_comesBack kd_X11_comesBack ⟨Nat.le_of_ble_eq_true rfl, Nat.le_of_ble_eq_true rfl⟩) (ty_preE (wr := []) (wc := ([(rf_MO mo mw ma mf m0 m1 mu mv u0 u1 iz th1_24 mb mn mpt mbg mwr mwk mlf y_33), (rf_RW ct 0 mw 958 f_34), (rf_RW ct 0 ma 958 fa1_30)] ++ ws_38)) (ci := 11) (q0 := 0) hP hK hD hS hA hX rfl rfl) rfl rfl hl.1 rfl (lv_room (Nat.le_of_ble_eq_true rfl)) dX11_valueAfter_80 ⟨Nat.le_of_ble_eq_true rfl, Nat.le_of_ble_eq_true rfl⟩) hP hD hS hA (fun u H locs hw_40 hP hD hS => ?_)
            obtain ⟨ws_41, f1_42⟩ := u
            obtain ⟨hT, hp_43⟩ := hw_40
            have hp_43 : rf_R G (-1) f1_42 ∧ f1_42 8 = fa1_30 8 := hp_43
            have hR_44 := hp_43.1
            have hP : va_P D vwCl ([(rf_MO mo mw ma mf m0 m1 mu mv u0 u1 iz th1_24 mb mn mpt mbg mwr mwk mlf y_33), (rf_RW ct 0 mw 958 f1_42), (rf_RW ct 0 ma 958 fa1_30)] ++ ws_41) H := hP
            have hD : va_D A ([(rf_MO mo mw ma mf m0 m1 mu mv u0 u1 iz th1_24 mb mn mpt mbg mwr mwk mlf y_33), (rf_RW ct 0 mw 958 f1_42), (rf_RW ct 0 ma 958 fa1_30)] ++ ws_41) := hD
            have hD_46 := rf_dg (rf_dr f) hp_31.2 hp_43.2
            refine lv_iload hx hb dX11_valueAfter_83 (lv_at hl 0 rfl) ?_
            exact W.iret (v := (rf_of f_34 p1 p2.toInt.toNat)) hx hb hr (fun t ht hW => ⟨⟨(rf_of f_34 p1 p2.toInt.toNat), (ws_41, y_33, th1_24, f1_42, fa1_30), rfl, ⟨hT, ⟨hD_46, hR_44⟩⟩, by rw [ht]; exact hP, by rw [hAe]; exact hD⟩, hS.F ht⟩) hS.2.2 dX11_valueAfter_85
          · refine lv_aload_n hx hb dX11_valueAfter_60 rfl (lv_at hl 0 rfl) ?_
            refine lv_iload_n hx hb dX11_valueAfter_61 rfl (lv_at hl 1 rfl) ?_
            have hP : va_P D vwCl ([(rf_RW ct 0 ma 958 fa1_30), (rf_MO mo mw ma mf m0 m1 mu mv u0 u1 iz th1_24 mb mn mpt mbg mwr mwk mlf y_33), (rf_RW ct 0 mw 958 f_34)] ++ ws) H := ty_permP hP (ty_ordp (E := [(rf_MO mo mw ma mf m0 m1 mu mv u0 u1 iz th1_24 mb mn mpt mbg mwr mwk mlf y_33), (rf_RW ct 0 mw 958 f_34), (rf_RW ct 0 ma 958 fa1_30)]) (E2 := [(rf_RW ct 0 ma 958 fa1_30), (rf_MO mo mw ma mf m0 m1 mu mv u0 u1 iz th1_24 mb mn mpt mbg mwr mwk mlf y_33), (rf_RW ct 0 mw 958 f_34)]) (n := 3) [2, 0, 1] rfl rfl (by decide))
            have hD : va_D A ([(rf_RW ct 0 ma 958 fa1_30), (rf_MO mo mw ma mf m0 m1 mu mv u0 u1 iz th1_24 mb mn mpt mbg mwr mwk mlf y_33), (rf_RW ct 0 mw 958 f_34)] ++ ws) := ty_permD hD (ty_ordp (E := [(rf_MO mo mw ma mf m0 m1 mu mv u0 u1 iz th1_24 mb mn mpt mbg mwr mwk mlf y_33), (rf_RW ct 0 mw 958 f_34), (rf_RW ct 0 ma 958 fa1_30)]) (E2 := [(rf_RW ct 0 ma 958 fa1_30), (rf_MO mo mw ma mf m0 m1 mu mv u0 u1 iz th1_24 mb mn mpt mbg mwr mwk mlf y_33), (rf_RW ct 0 mw 958 f_34)]) (n := 3) [2, 0, 1] rfl rfl (by decide))
            refine ty_kv (wr := [(rf_RW ct 0 ma 958 fa1_30)]) (wc := ([(rf_MO mo mw ma mf m0 m1 mu mv u0 u1 iz th1_24 mb mn mpt mbg mwr mwk mlf y_33), (rf_RW ct 0 mw 958 f_34)] ++ ws)) (va_runV (As := [.int p1]) (rest := []) ⟨hx, hb, hml, hown, hts⟩ (m_X11_alone l D ct S ws ph xx mo mw ma mf m0 m1 mu mv u0 u1 iz mb th1_24 mn mpt mbg mwr mwk mlf y_33 f_34 G p1 _ hT h_mu h_mv h_u0 h_u1 hph hy1 hy11 hR_54 hz_6) (cm_V 1 hts kc_X11_alone ki_RX11 kl_RX11_382 kv_X11_alone kx_X11_alone kd_X11_alone ⟨Nat.le_of_ble_eq_true rfl, Nat.le_of_ble_eq_true rfl⟩) (ty_preE (wr := [(rf_RW ct 0 ma 958 fa1_30)]) (wc := ([(rf_MO mo mw ma mf m0 m1 mu mv u0 u1 iz th1_24 mb mn mpt mbg mwr mwk mlf y_33), (rf_RW ct 0 mw 958 f_34)] ++ ws)) (ci := 11) (q0 := 1) hP hK hD hS hA hX rfl rfl) rfl rfl hl.1 rfl (lv_room (Nat.le_of_ble_eq_true rfl)) dX11_valueAfter_62 ⟨Nat.le_of_ble_eq_true rfl, Nat.le_of_ble_eq_true rfl⟩) hP hD hS hA (fun u H locs hw_48 hP hD hS => ?_)
            obtain ⟨ws_49, men1_50, f1_51⟩ := u
            obtain ⟨hT, hp_52⟩ := hw_48
            have hp_52 : rf_d ((f_34 8) + 1) f_34 f1_51 ∧ rf_R G (-1) f1_51 := hp_52
            obtain ⟨hd_53, hq_54⟩ := hp_52
            have hR_55 := hq_54
            have hP : va_P D vwCl ([(rf_RW ct 0 ma 958 fa1_30), (rf_MO mo mw ma mf m0 m1 mu mv u0 u1 iz th1_24 mb mn mpt mbg mwr mwk mlf men1_50), (rf_RW ct 0 mw 958 f1_51)] ++ ws_49) H := hP
            have hD : va_D A ([(rf_RW ct 0 ma 958 fa1_30), (rf_MO mo mw ma mf m0 m1 mu mv u0 u1 iz th1_24 mb mn mpt mbg mwr mwk mlf men1_50), (rf_RW ct 0 mw 958 f1_51)] ++ ws_49) := hD
            refine lv_iinc (v := (y_32 + Int32.ofInt 1)) (lv' := [(4, .int (y_32 + Int32.ofInt 1)), (0, .ref mo), (1, .int p1), (2, .int p2), (3, .int p3)]) hx hb dX11_valueAfter_65 hl (k := 4) rfl rfl (by decide) rfl (fun ls hl => ?_)
            refine lv_goto (tgt := 54) hx hb dX11_valueAfter_68 (by decide) ?_
            have hP : va_P D vwCl ([(rf_MO mo mw ma mf m0 m1 mu mv u0 u1 iz th1_24 mb mn mpt mbg mwr mwk mlf men1_50), (rf_RW ct 0 mw 958 f1_51), (rf_RW ct 0 ma 958 fa1_30)] ++ ws_49) H := ty_permP hP (ty_ordp (E := [(rf_RW ct 0 ma 958 fa1_30), (rf_MO mo mw ma mf m0 m1 mu mv u0 u1 iz th1_24 mb mn mpt mbg mwr mwk mlf men1_50), (rf_RW ct 0 mw 958 f1_51)]) (E2 := [(rf_MO mo mw ma mf m0 m1 mu mv u0 u1 iz th1_24 mb mn mpt mbg mwr mwk mlf men1_50), (rf_RW ct 0 mw 958 f1_51), (rf_RW ct 0 ma 958 fa1_30)]) (n := 3) [1, 2, 0] rfl rfl (by decide))
            have hD : va_D A ([(rf_MO mo mw ma mf m0 m1 mu mv u0 u1 iz th1_24 mb mn mpt mbg mwr mwk mlf men1_50), (rf_RW ct 0 mw 958 f1_51), (rf_RW ct 0 ma 958 fa1_30)] ++ ws_49) := ty_permD hD (ty_ordp (E := [(rf_RW ct 0 ma 958 fa1_30), (rf_MO mo mw ma mf m0 m1 mu mv u0 u1 iz th1_24 mb mn mpt mbg mwr mwk mlf men1_50), (rf_RW ct 0 mw 958 f1_51)]) (E2 := [(rf_MO mo mw ma mf m0 m1 mu mv u0 u1 iz th1_24 mb mn mpt mbg mwr mwk mlf men1_50), (rf_RW ct 0 mw 958 f1_51), (rf_RW ct 0 ma 958 fa1_30)]) (n := 3) [1, 2, 0] rfl rfl (by decide))
            exact ih_54 _ _ _ _ (ty_inc (cm_lt hc_35)) ⟨ws_49, (y_32 + Int32.ofInt 1), men1_50, f1_51, rfl, hT, hP, hD, hS, (lv_sub hl [1, 2, 3, 4, 0] rfl), hR_55⟩
        · refine lv_if_eq (tgt := 47) hx hb dX11_valueAfter_42 (by decide) (fun hc => absurd hc (by decide)) (fun _ => ?_)
          refine lv_iconst (v := 0) hx hb dX11_valueAfter_45 (by decide) ?_
          have hP : va_P D vwCl ([(rf_MO mo mw ma mf m0 m1 mu mv u0 u1 iz th1_24 mb mn mpt mbg mwr mwk mlf men), (rf_RW ct 0 mw 958 f), (rf_RW ct 0 ma 958 fa)] ++ ws_23) H := ty_permP hP (ty_ordp (E := [(rf_RW ct 0 ma 958 fa), (rf_RW ct 0 mw 958 f), (rf_MO mo mw ma mf m0 m1 mu mv u0 u1 iz th1_24 mb mn mpt mbg mwr mwk mlf men)]) (E2 := [(rf_MO mo mw ma mf m0 m1 mu mv u0 u1 iz th1_24 mb mn mpt mbg mwr mwk mlf men), (rf_RW ct 0 mw 958 f), (rf_RW ct 0 ma 958 fa)]) (n := 3) [2, 1, 0] rfl rfl (by decide))
          have hD : va_D A ([(rf_MO mo mw ma mf m0 m1 mu mv u0 u1 iz th1_24 mb mn mpt mbg mwr mwk mlf men), (rf_RW ct 0 mw 958 f), (rf_RW ct 0 ma 958 fa)] ++ ws_23) := ty_permD hD (ty_ordp (E := [(rf_RW ct 0 ma 958 fa), (rf_RW ct 0 mw 958 f), (rf_MO mo mw ma mf m0 m1 mu mv u0 u1 iz th1_24 mb mn mpt mbg mwr mwk mlf men)]) (E2 := [(rf_MO mo mw ma mf m0 m1 mu mv u0 u1 iz th1_24 mb mn mpt mbg mwr mwk mlf men), (rf_RW ct 0 mw 958 f), (rf_RW ct 0 ma 958 fa)]) (n := 3) [2, 1, 0] rfl rfl (by decide))
          exact W.iret (v := 0) hx hb hr (fun t ht hW => ⟨⟨0, (ws_23, men, th1_24, f, fa), rfl, ⟨hT, ⟨(rf_dr f), hR⟩⟩, by rw [ht]; exact hP, by rw [hAe]; exact hD⟩, hS.F ht⟩) hS.2.2 dX11_valueAfter_46
      · refine lv_iconst (v := 1) hx hb dX11_valueAfter_33 (by decide) ?_
        refine lv_goto (tgt := 38) hx hb dX11_valueAfter_34 (by decide) ?_
        refine lv_iconst (v := 2) hx hb dX11_valueAfter_38 (by decide) ?_
        have hP : va_P D vwCl ([(rf_RW ct 0 ma 958 fa), (rf_RW ct 0 mw 958 f), (rf_MO mo mw ma mf m0 m1 mu mv u0 u1 iz th1_4 mb mn mpt mbg mwr mwk mlf men)] ++ ws_19) H := ty_permP hP (ty_ordp (E := [(rf_RW ct 0 ma 958 fa), (rf_MO mo mw ma mf m0 m1 mu mv u0 u1 iz th1_4 mb mn mpt mbg mwr mwk mlf men), (rf_RW ct 0 mw 958 f)]) (E2 := [(rf_RW ct 0 ma 958 fa), (rf_RW ct 0 mw 958 f), (rf_MO mo mw ma mf m0 m1 mu mv u0 u1 iz th1_4 mb mn mpt mbg mwr mwk mlf men)]) (n := 3) [0, 2, 1] rfl rfl (by decide))
        have hD : va_D A ([(rf_RW ct 0 ma 958 fa), (rf_RW ct 0 mw 958 f), (rf_MO mo mw ma mf m0 m1 mu mv u0 u1 iz th1_4 mb mn mpt mbg mwr mwk mlf men)] ++ ws_19) := ty_permD hD (ty_ordp (E := [(rf_RW ct 0 ma 958 fa), (rf_MO mo mw ma mf m0 m1 mu mv u0 u1 iz th1_4 mb mn mpt mbg mwr mwk mlf men), (rf_RW ct 0 mw 958 f)]) (E2 := [(rf_RW ct 0 ma 958 fa), (rf_RW ct 0 mw 958 f), (rf_MO mo mw ma mf m0 m1 mu mv u0 u1 iz th1_4 mb mn mpt mbg mwr mwk mlf men)]) (n := 3) [0, 2, 1] rfl rfl (by decide))
        refine ty_ki (wr := [(rf_RW ct 0 ma 958 fa), (rf_RW ct 0 mw 958 f)]) (wc := ([(rf_MO mo mw ma mf m0 m1 mu mv u0 u1 iz th1_4 mb mn mpt mbg mwr mwk mlf men)] ++ ws_19)) (va_runV (As := [.int 1, .int 2]) (rest := []) ⟨hx, hb, hml, hown, hts⟩ (m_X11_throwsIf l D ct S ws_19 ph xx mo mw ma mf m0 m1 mu mv u0 u1 iz mb th1_4 mn mpt mbg mwr mwk mlf men (1 : Int32) (2 : Int32) _ hT h_mu h_mv h_u0 h_u1 hph hy1 (by decide)) (cm_V 2 hts kc_X11_throwsIf ki_RX11 kl_RX11_328 kv_X11_throwsIf kx_X11_throwsIf kd_X11_throwsIf ⟨Nat.le_of_ble_eq_true rfl, Nat.le_of_ble_eq_true rfl⟩) (ty_preE (wr := [(rf_RW ct 0 ma 958 fa), (rf_RW ct 0 mw 958 f)]) (wc := ([(rf_MO mo mw ma mf m0 m1 mu mv u0 u1 iz th1_4 mb mn mpt mbg mwr mwk mlf men)] ++ ws_19)) (ci := 11) (q0 := 2) hP hK hD hS hA hX rfl rfl) rfl rfl hl.1 rfl (lv_room (Nat.le_of_ble_eq_true rfl)) dX11_valueAfter_39 ⟨Nat.le_of_ble_eq_true rfl, Nat.le_of_ble_eq_true rfl⟩) hP hD hS hA (fun r_57 u H locs hw_58 hP hD hS => ?_)
        obtain ⟨ws_59, th1_60⟩ := u
        obtain ⟨hT, hp_61⟩ := hw_58
        have hp_61 : ((r_57 = 0 ∧ (1 : Int32) = 0) ∨ r_57 = 1) := hp_61
        have hP : va_P D vwCl ([(rf_RW ct 0 ma 958 fa), (rf_RW ct 0 mw 958 f), (rf_MO mo mw ma mf m0 m1 mu mv u0 u1 iz th1_60 mb mn mpt mbg mwr mwk mlf men)] ++ ws_59) H := hP
        have hD : va_D A ([(rf_RW ct 0 ma 958 fa), (rf_RW ct 0 mw 958 f), (rf_MO mo mw ma mf m0 m1 mu mv u0 u1 iz th1_60 mb mn mpt mbg mwr mwk mlf men)] ++ ws_59) := hD
        rcases hp_61 with ⟨rfl, hz_62⟩ | rfl
        · exact absurd hz_62 (by decide)
        · refine lv_if_eq (tgt := 47) hx hb dX11_valueAfter_42 (by decide) (fun hc => absurd hc (by decide)) (fun _ => ?_)
          refine lv_iconst (v := 0) hx hb dX11_valueAfter_45 (by decide) ?_
          have hP : va_P D vwCl ([(rf_MO mo mw ma mf m0 m1 mu mv u0 u1 iz th1_60 mb mn mpt mbg mwr mwk mlf men), (rf_RW ct 0 mw 958 f), (rf_RW ct 0 ma 958 fa)] ++ ws_59) H := ty_permP hP (ty_ordp (E := [(rf_RW ct 0 ma 958 fa), (rf_RW ct 0 mw 958 f), (rf_MO mo mw ma mf m0 m1 mu mv u0 u1 iz th1_60 mb mn mpt mbg mwr mwk mlf men)]) (E2 := [(rf_MO mo mw ma mf m0 m1 mu mv u0 u1 iz th1_60 mb mn mpt mbg mwr mwk mlf men), (rf_RW ct 0 mw 958 f), (rf_RW ct 0 ma 958 fa)]) (n := 3) [2, 1, 0] rfl rfl (by decide))
          have hD : va_D A ([(rf_MO mo mw ma mf m0 m1 mu mv u0 u1 iz th1_60 mb mn mpt mbg mwr mwk mlf men), (rf_RW ct 0 mw 958 f), (rf_RW ct 0 ma 958 fa)] ++ ws_59) := ty_permD hD (ty_ordp (E := [(rf_RW ct 0 ma 958 fa), (rf_RW ct 0 mw 958 f), (rf_MO mo mw ma mf m0 m1 mu mv u0 u1 iz th1_60 mb mn mpt mbg mwr mwk mlf men)]) (E2 := [(rf_MO mo mw ma mf m0 m1 mu mv u0 u1 iz th1_60 mb mn mpt mbg mwr mwk mlf men), (rf_RW ct 0 mw 958 f), (rf_RW ct 0 ma 958 fa)]) (n := 3) [2, 1, 0] rfl rfl (by decide))
          exact W.iret (v := 0) hx hb hr (fun t ht hW => ⟨⟨0, (ws_59, men, th1_60, f, fa), rfl, ⟨hT, ⟨(rf_dr f), hR⟩⟩, by rw [ht]; exact hP, by rw [hAe]; exact hD⟩, hS.F ht⟩) hS.2.2 dX11_valueAfter_46
  · refine lv_if_ne (tgt := 45) hx hb dX11_valueAfter_5 (by decide) (fun _ => ?_) (fun hc => absurd hc (by decide))
    refine lv_iconst (v := 0) hx hb dX11_valueAfter_45 (by decide) ?_
    have hP : va_P D vwCl ([(rf_MO mo mw ma mf m0 m1 mu mv u0 u1 iz th1_4 mb mn mpt mbg mwr mwk mlf men), (rf_RW ct 0 mw 958 f), (rf_RW ct 0 ma 958 fa)] ++ ws_3) H := ty_permP hP (ty_ordp (E := [(rf_RW ct 0 ma 958 fa), (rf_MO mo mw ma mf m0 m1 mu mv u0 u1 iz th1_4 mb mn mpt mbg mwr mwk mlf men), (rf_RW ct 0 mw 958 f)]) (E2 := [(rf_MO mo mw ma mf m0 m1 mu mv u0 u1 iz th1_4 mb mn mpt mbg mwr mwk mlf men), (rf_RW ct 0 mw 958 f), (rf_RW ct 0 ma 958 fa)]) (n := 3) [1, 2, 0] rfl rfl (by decide))
    have hD : va_D A ([(rf_MO mo mw ma mf m0 m1 mu mv u0 u1 iz th1_4 mb mn mpt mbg mwr mwk mlf men), (rf_RW ct 0 mw 958 f), (rf_RW ct 0 ma 958 fa)] ++ ws_3) := ty_permD hD (ty_ordp (E := [(rf_RW ct 0 ma 958 fa), (rf_MO mo mw ma mf m0 m1 mu mv u0 u1 iz th1_4 mb mn mpt mbg mwr mwk mlf men), (rf_RW ct 0 mw 958 f)]) (E2 := [(rf_MO mo mw ma mf m0 m1 mu mv u0 u1 iz th1_4 mb mn mpt mbg mwr mwk mlf men), (rf_RW ct 0 mw 958 f), (rf_RW ct 0 ma 958 fa)]) (n := 3) [1, 2, 0] rfl rfl (by decide))
    exact W.iret (v := 0) hx hb hr (fun t ht hW => ⟨⟨0, (ws_3, men, th1_4, f, fa), rfl, ⟨hT, ⟨(rf_dr f), hR⟩⟩, by rw [ht]; exact hP, by rw [hAe]; exact hD⟩, hS.F ht⟩) hS.2.2 dX11_valueAfter_46
theorem dX11_peakTemperature_0 : decode cX11_peakTemperature 0 = .ok (.aload_n 0, 1) := by decide +kernel
theorem dX11_peakTemperature_1 : decode cX11_peakTemperature 1 = .ok (.iload_n 1, 1) := by decide +kernel
theorem dX11_peakTemperature_2 : decode cX11_peakTemperature 2 = .ok (.invokevirtual 344, 3) := by decide +kernel
theorem dX11_peakTemperature_5 : decode cX11_peakTemperature 5 = .ok (.ifCond .ne 28, 3) := by decide +kernel
theorem dX11_peakTemperature_8 : decode cX11_peakTemperature 8 = .ok (.aload_n 0, 1) := by decide +kernel
theorem dX11_peakTemperature_9 : decode cX11_peakTemperature 9 = .ok (.iload_n 2, 1) := by decide +kernel
theorem dX11_peakTemperature_10 : decode cX11_peakTemperature 10 = .ok (.i2l, 1) := by decide +kernel
theorem dX11_peakTemperature_11 : decode cX11_peakTemperature 11 = .ok (.lconst 0, 1) := by decide +kernel
theorem dX11_peakTemperature_12 : decode cX11_peakTemperature 12 = .ok (.ldc2_w 394, 3) := by decide +kernel
theorem dX11_peakTemperature_15 : decode cX11_peakTemperature 15 = .ok (.invokestatic 70, 3) := by decide +kernel
theorem dX11_peakTemperature_18 : decode cX11_peakTemperature 18 = .ok (.ifCond .ne 7, 3) := by decide +kernel
theorem dX11_peakTemperature_21 : decode cX11_peakTemperature 21 = .ok (.iconst 1, 1) := by decide +kernel
theorem dX11_peakTemperature_22 : decode cX11_peakTemperature 22 = .ok (.goto 4, 3) := by decide +kernel
theorem dX11_peakTemperature_25 : decode cX11_peakTemperature 25 = .ok (.iconst 0, 1) := by decide +kernel
theorem dX11_peakTemperature_26 : decode cX11_peakTemperature 26 = .ok (.iconst 2, 1) := by decide +kernel
theorem dX11_peakTemperature_27 : decode cX11_peakTemperature 27 = .ok (.invokevirtual 328, 3) := by decide +kernel
theorem dX11_peakTemperature_30 : decode cX11_peakTemperature 30 = .ok (.ifCond .eq 5, 3) := by decide +kernel
theorem dX11_peakTemperature_33 : decode cX11_peakTemperature 33 = .ok (.iconst 0, 1) := by decide +kernel
theorem dX11_peakTemperature_34 : decode cX11_peakTemperature 34 = .ok (.ireturn, 1) := by decide +kernel
theorem dX11_peakTemperature_35 : decode cX11_peakTemperature 35 = .ok (.aload_n 0, 1) := by decide +kernel
theorem dX11_peakTemperature_36 : decode cX11_peakTemperature 36 = .ok (.invokevirtual 379, 3) := by decide +kernel
theorem dX11_peakTemperature_39 : decode cX11_peakTemperature 39 = .ok (.aload_n 0, 1) := by decide +kernel
theorem dX11_peakTemperature_40 : decode cX11_peakTemperature 40 = .ok (.iload_n 1, 1) := by decide +kernel
theorem dX11_peakTemperature_41 : decode cX11_peakTemperature 41 = .ok (.bipush 9, 2) := by decide +kernel
theorem dX11_peakTemperature_43 : decode cX11_peakTemperature 43 = .ok (.invokevirtual 209, 3) := by decide +kernel
theorem dX11_peakTemperature_46 : decode cX11_peakTemperature 46 = .ok (.istore_n 3, 1) := by decide +kernel
theorem dX11_peakTemperature_47 : decode cX11_peakTemperature 47 = .ok (.iconst 0, 1) := by decide +kernel
theorem dX11_peakTemperature_48 : decode cX11_peakTemperature 48 = .ok (.istore 4, 2) := by decide +kernel
theorem dX11_peakTemperature_50 : decode cX11_peakTemperature 50 = .ok (.iload 4, 2) := by decide +kernel
theorem dX11_peakTemperature_52 : decode cX11_peakTemperature 52 = .ok (.iload_n 2, 1) := by decide +kernel
theorem dX11_peakTemperature_53 : decode cX11_peakTemperature 53 = .ok (.if_icmp .ge 26, 3) := by decide +kernel
theorem dX11_peakTemperature_56 : decode cX11_peakTemperature 56 = .ok (.aload_n 0, 1) := by decide +kernel
theorem dX11_peakTemperature_57 : decode cX11_peakTemperature 57 = .ok (.iload_n 1, 1) := by decide +kernel
theorem dX11_peakTemperature_58 : decode cX11_peakTemperature 58 = .ok (.invokevirtual 382, 3) := by decide +kernel
theorem dX11_peakTemperature_61 : decode cX11_peakTemperature 61 = .ok (.iload_n 3, 1) := by decide +kernel
theorem dX11_peakTemperature_62 : decode cX11_peakTemperature 62 = .ok (.aload_n 0, 1) := by decide +kernel
theorem dX11_peakTemperature_63 : decode cX11_peakTemperature 63 = .ok (.iload_n 1, 1) := by decide +kernel
theorem dX11_peakTemperature_64 : decode cX11_peakTemperature 64 = .ok (.bipush 9, 2) := by decide +kernel
theorem dX11_peakTemperature_66 : decode cX11_peakTemperature 66 = .ok (.invokevirtual 209, 3) := by decide +kernel
theorem dX11_peakTemperature_69 : decode cX11_peakTemperature 69 = .ok (.invokestatic 225, 3) := by decide +kernel
theorem dX11_peakTemperature_72 : decode cX11_peakTemperature 72 = .ok (.istore_n 3, 1) := by decide +kernel
theorem dX11_peakTemperature_73 : decode cX11_peakTemperature 73 = .ok (.iinc 4 1, 3) := by decide +kernel
theorem dX11_peakTemperature_76 : decode cX11_peakTemperature 76 = .ok (.goto (-26), 3) := by decide +kernel
theorem dX11_peakTemperature_79 : decode cX11_peakTemperature 79 = .ok (.aload_n 0, 1) := by decide +kernel
theorem dX11_peakTemperature_80 : decode cX11_peakTemperature 80 = .ok (.invokevirtual 385, 3) := by decide +kernel
theorem dX11_peakTemperature_83 : decode cX11_peakTemperature 83 = .ok (.iload_n 3, 1) := by decide +kernel
theorem dX11_peakTemperature_84 : decode cX11_peakTemperature 84 = .ok (.ireturn, 1) := by decide +kernel
set_option maxRecDepth 100000 in
set_option maxHeartbeats 4000000 in
theorem m_X11_peakTemperature (l : Launch) (D : va_G) (ct : Nat → ClassId) (S : ty_S) (ws : va_W) (ph : va_W → Prop) (xx : Nat → Nat → Nat → Prop) (mo : Nat) (mw : Nat) (ma : Nat) (mf : Nat) (m0 : Nat) (m1 : Nat) (mu : Nat) (mv : Nat) (u0 : Nat) (u1 : Nat) (iz : Nat) (mb : Nat) (th : Int32) (mn : Int32) (mpt : Int32) (mbg : Int32) (mwr : Int32) (mwk : Int32) (mlf : Int32) (men : Int32) (f : Nat → Int32) (G : Nat → Int32) (fa : Nat → Int32) (p1 : Int32) (p2 : Int32) (sz : Nat) (hT : ty_V ct S ph ws) (h_mu : S mu = some (.inr (1, 42))) (h_mv : S mv = some (.inr (1, 42))) (h_u0 : S u0 = some (.inr (1, 42))) (h_u1 : S u1 = some (.inr (1, 42))) (hph : ty_C ph xx) (hy1 : ty_y1 xx) (hy11 : ty_y0 xx 11) (hR : rf_R G (-1) f) : Met l yX11_peakTemperature (ws_ yX11_peakTemperature cX11_peakTemperature 5 (some .int)) ({ frames := 8, cells := 0, slots := 0, locals := 186 } : Room) (va_Pc [.ref mo, .int p1, .int p2] (cmP D ct sz ([(rf_MO mo mw ma mf m0 m1 mu mv u0 u1 iz th mb mn mpt mbg mwr mwk mlf men), (rf_RW ct 0 mw 958 f), (rf_RW ct 0 ma 958 fa)] ++ ws))) (va_Qi (fun (r : Int32) (u : va_W × Int32 × Int32 × (Nat → Int32) × (Nat → Int32)) => match u with | (u9, men1, th1, f1, fa1) => ty_V ct S ph u9 ∧ rf_d (f 8) f f1 ∧ rf_R G (-1) f1) (cmB D ([(rf_MO mo mw ma mf m0 m1 mu mv u0 u1 iz th mb mn mpt mbg mwr mwk mlf men), (rf_RW ct 0 mw 958 f), (rf_RW ct 0 ma 958 fa)] ++ ws) sz (fun (u : va_W × Int32 × Int32 × (Nat → Int32) × (Nat → Int32)) => match u with | (u9, men1, th1, f1, fa1) => ([(rf_MO mo mw ma mf m0 m1 mu mv u0 u1 iz th1 mb mn mpt mbg mwr mwk mlf men1), (rf_RW ct 0 mw 958 f1), (rf_RW ct 0 ma 958 fa1)] ++ u9))) (va_A ([(rf_MO mo mw ma mf m0 m1 mu mv u0 u1 iz th mb mn mpt mbg mwr mwk mlf men), (rf_RW ct 0 mw 958 f), (rf_RW ct 0 ma 958 fa)] ++ ws) sz)) 0 0 (va_A ([(rf_MO mo mw ma mf m0 m1 mu mv u0 u1 iz th mb mn mpt mbg mwr mwk mlf men), (rf_RW ct 0 mw 958 f), (rf_RW ct 0 ma 958 fa)] ++ ws) sz) := by
  refine Met.ofW (cc := cX11_peakTemperature) (maxL := 5) (ret := (some .int)) (by decide) rfl ?_
  intro p e s m args below meth c s₁ B hml hv
  obtain ⟨rfl, hsz, hP, hK, hD0, hX⟩ := hv
  have hx := B.exec
  have hb := B.bytes
  have hr := B.returns
  have hts := ws_all (atoms_spec (ws := ws_ yX11_peakTemperature cX11_peakTemperature 5 (some .int)) B.pre)
  have hown : s.vm.findClass RX11 = some m.cls := findClass_of_methodNamed B.named
  have hlocks := B.notSynchronized
  subst hsz
  have hD := hD0.self (sz := s.heap.size)
  generalize hAe : va_A ([(rf_MO mo mw ma mf m0 m1 mu mv u0 u1 iz th mb mn mpt mbg mwr mwk mlf men), (rf_RW ct 0 mw 958 f), (rf_RW ct 0 ma 958 fa)] ++ ws) s.heap.size = A at hD hX ⊢
  have hA : ∀ q : Nat, s.heap.size ≤ q → A q := fun q h => by rw [← hAe]; exact Or.inr h
  have hS : va_S A s.heap s.heap [] := va_S.rf
  have hl := lv_entry ([.ref mo, .int p1, .int p2]) (n := 5) (Nat.le_of_ble_eq_true rfl)
  rw [lg_entry_eq]
  generalize (lg_sl ([.ref mo, .int p1, .int p2]) ++ List.replicate (5 - (lg_sl ([.ref mo, .int p1, .int p2])).length) Slot.unset).toArray = ls at hl ⊢
  have hl : lv_has ls 5 [(0, .ref mo), (1, .int p1), (2, .int p2)] := hl
  refine lv_aload_n hx hb dX11_peakTemperature_0 rfl (lv_at hl 0 rfl) ?_
  refine lv_iload_n hx hb dX11_peakTemperature_1 rfl (lv_at hl 1 rfl) ?_
  have hP : va_P D vwCl ([(rf_RW ct 0 ma 958 fa), (rf_MO mo mw ma mf m0 m1 mu mv u0 u1 iz th mb mn mpt mbg mwr mwk mlf men), (rf_RW ct 0 mw 958 f)] ++ ws) s.heap := ty_permP hP (ty_ordp (E := [(rf_MO mo mw ma mf m0 m1 mu mv u0 u1 iz th mb mn mpt mbg mwr mwk mlf men), (rf_RW ct 0 mw 958 f), (rf_RW ct 0 ma 958 fa)]) (E2 := [(rf_RW ct 0 ma 958 fa), (rf_MO mo mw ma mf m0 m1 mu mv u0 u1 iz th mb mn mpt mbg mwr mwk mlf men), (rf_RW ct 0 mw 958 f)]) (n := 3) [2, 0, 1] rfl rfl (by decide))
  have hD : va_D A ([(rf_RW ct 0 ma 958 fa), (rf_MO mo mw ma mf m0 m1 mu mv u0 u1 iz th mb mn mpt mbg mwr mwk mlf men), (rf_RW ct 0 mw 958 f)] ++ ws) := ty_permD hD (ty_ordp (E := [(rf_MO mo mw ma mf m0 m1 mu mv u0 u1 iz th mb mn mpt mbg mwr mwk mlf men), (rf_RW ct 0 mw 958 f), (rf_RW ct 0 ma 958 fa)]) (E2 := [(rf_RW ct 0 ma 958 fa), (rf_MO mo mw ma mf m0 m1 mu mv u0 u1 iz th mb mn mpt mbg mwr mwk mlf men), (rf_RW ct 0 mw 958 f)]) (n := 3) [2, 0, 1] rfl rfl (by decide))
  refine ty_ki (wr := [(rf_RW ct 0 ma 958 fa)]) (wc := ([(rf_MO mo mw ma mf m0 m1 mu mv u0 u1 iz th mb mn mpt mbg mwr mwk mlf men), (rf_RW ct 0 mw 958 f)] ++ ws)) (va_runV (As := [.int p1]) (rest := []) ⟨hx, hb, hml, hown, hts⟩ (m_X11_noChannel l D ct S ws ph xx mo mw ma mf m0 m1 mu mv u0 u1 iz mb th mn mpt mbg mwr mwk mlf men f G (-1) p1 _ hT h_mu h_mv h_u0 h_u1 hph hy1 hR) (cm_V 1 hts kc_X11_noChannel ki_RX11 kl_RX11_344 kv_X11_noChannel kx_X11_noChannel kd_X11_noChannel ⟨Nat.le_of_ble_eq_true rfl, Nat.le_of_ble_eq_true rfl⟩) (ty_preE (wr := [(rf_RW ct 0 ma 958 fa)]) (wc := ([(rf_MO mo mw ma mf m0 m1 mu mv u0 u1 iz th mb mn mpt mbg mwr mwk mlf men), (rf_RW ct 0 mw 958 f)] ++ ws)) (ci := 11) (q0 := 1) hP hK hD hS hA hX rfl rfl) rfl rfl hl.1 rfl (lv_room (Nat.le_of_ble_eq_true rfl)) dX11_peakTemperature_2 ⟨Nat.le_of_ble_eq_true rfl, Nat.le_of_ble_eq_true rfl⟩) hP hD hS hA (fun r_1 u H locs hw_2 hP hD hS => ?_)
  obtain ⟨ws_3, th1_4⟩ := u
  obtain ⟨hT, hp_5⟩ := hw_2
  have hp_5 : ((r_1 = 0 ∧ 0 ≤ p1.toInt ∧ p1.toInt < (G 9).toInt) ∨ r_1 = 1) := hp_5
  have hP : va_P D vwCl ([(rf_RW ct 0 ma 958 fa), (rf_MO mo mw ma mf m0 m1 mu mv u0 u1 iz th1_4 mb mn mpt mbg mwr mwk mlf men), (rf_RW ct 0 mw 958 f)] ++ ws_3) H := hP
  have hD : va_D A ([(rf_RW ct 0 ma 958 fa), (rf_MO mo mw ma mf m0 m1 mu mv u0 u1 iz th1_4 mb mn mpt mbg mwr mwk mlf men), (rf_RW ct 0 mw 958 f)] ++ ws_3) := hD
  rcases hp_5 with ⟨rfl, hz_6⟩ | rfl
  · refine lv_if_ne (tgt := 33) hx hb dX11_peakTemperature_5 (by decide) (fun hc => absurd (by decide) hc) (fun _ => ?_)
    refine lv_aload_n hx hb dX11_peakTemperature_8 rfl (lv_at hl 0 rfl) ?_
    refine lv_iload_n hx hb dX11_peakTemperature_9 rfl (lv_at hl 2 rfl) ?_
    refine lv_i2l hx hb dX11_peakTemperature_10 rfl ?_
    refine lv_topl (fun x_7 _ => ?_)
    refine lv_lconst (v := 0) hx hb dX11_peakTemperature_11 (by decide) ?_
    refine lv_ldc2 hx hb hown (hts _ kl_RX11_394) dX11_peakTemperature_12 ?_
    refine ty_ki (wr := [(rf_RW ct 0 ma 958 fa), (rf_MO mo mw ma mf m0 m1 mu mv u0 u1 iz th1_4 mb mn mpt mbg mwr mwk mlf men), (rf_RW ct 0 mw 958 f)]) (wc := ([] ++ ws_3)) (va_runS (As := [.long x_7, .long 0, .long 10000]) (rest := [.ref mo]) ⟨hx, hb, hml, hown, hts⟩ (m_X11_in l D ct S ws_3 ph xx x_7 (0 : Int64) (10000 : Int64) _ hT hph hy1) (cm_S 3 hts kc_X11_in ki_RX11 kl_RX11_70 ks_X11_in kd_X11_in ⟨Nat.le_of_ble_eq_true rfl, Nat.le_of_ble_eq_true rfl⟩) (ty_preS (wr := [(rf_RW ct 0 ma 958 fa), (rf_MO mo mw ma mf m0 m1 mu mv u0 u1 iz th1_4 mb mn mpt mbg mwr mwk mlf men), (rf_RW ct 0 mw 958 f)]) (wc := ([] ++ ws_3)) hP hK hD hS hA hX) rfl rfl hl.1 rfl (lv_room (Nat.le_of_ble_eq_true rfl)) dX11_peakTemperature_15 ⟨Nat.le_of_ble_eq_true rfl, Nat.le_of_ble_eq_true rfl⟩) hP hD hS hA (fun r_8 u H locs hw_9 hP hD hS => ?_)
    obtain ⟨ws_10, rfl⟩ : ∃ z, z = u := ⟨_, rfl⟩
    obtain ⟨hT, rfl⟩ := hw_9
    have hP : va_P D vwCl ([(rf_RW ct 0 ma 958 fa), (rf_MO mo mw ma mf m0 m1 mu mv u0 u1 iz th1_4 mb mn mpt mbg mwr mwk mlf men), (rf_RW ct 0 mw 958 f)] ++ ws_10) H := hP
    have hD : va_D A ([(rf_RW ct 0 ma 958 fa), (rf_MO mo mw ma mf m0 m1 mu mv u0 u1 iz th1_4 mb mn mpt mbg mwr mwk mlf men), (rf_RW ct 0 mw 958 f)] ++ ws_10) := hD
    refine lv_if_ne (tgt := 25) hx hb dX11_peakTemperature_18 (by decide) (fun hc_11 => ?_) (fun hc_11 => ?_)
    · refine lv_iconst (v := 0) hx hb dX11_peakTemperature_25 (by decide) ?_
      refine lv_iconst (v := 2) hx hb dX11_peakTemperature_26 (by decide) ?_
      have hP : va_P D vwCl ([(rf_RW ct 0 ma 958 fa), (rf_RW ct 0 mw 958 f), (rf_MO mo mw ma mf m0 m1 mu mv u0 u1 iz th1_4 mb mn mpt mbg mwr mwk mlf men)] ++ ws_10) H := ty_permP hP (ty_ordp (E := [(rf_RW ct 0 ma 958 fa), (rf_MO mo mw ma mf m0 m1 mu mv u0 u1 iz th1_4 mb mn mpt mbg mwr mwk mlf men), (rf_RW ct 0 mw 958 f)]) (E2 := [(rf_RW ct 0 ma 958 fa), (rf_RW ct 0 mw 958 f), (rf_MO mo mw ma mf m0 m1 mu mv u0 u1 iz th1_4 mb mn mpt mbg mwr mwk mlf men)]) (n := 3) [0, 2, 1] rfl rfl (by decide))
      have hD : va_D A ([(rf_RW ct 0 ma 958 fa), (rf_RW ct 0 mw 958 f), (rf_MO mo mw ma mf m0 m1 mu mv u0 u1 iz th1_4 mb mn mpt mbg mwr mwk mlf men)] ++ ws_10) := ty_permD hD (ty_ordp (E := [(rf_RW ct 0 ma 958 fa), (rf_MO mo mw ma mf m0 m1 mu mv u0 u1 iz th1_4 mb mn mpt mbg mwr mwk mlf men), (rf_RW ct 0 mw 958 f)]) (E2 := [(rf_RW ct 0 ma 958 fa), (rf_RW ct 0 mw 958 f), (rf_MO mo mw ma mf m0 m1 mu mv u0 u1 iz th1_4 mb mn mpt mbg mwr mwk mlf men)]) (n := 3) [0, 2, 1] rfl rfl (by decide))
      refine ty_ki (wr := [(rf_RW ct 0 ma 958 fa), (rf_RW ct 0 mw 958 f)]) (wc := ([(rf_MO mo mw ma mf m0 m1 mu mv u0 u1 iz th1_4 mb mn mpt mbg mwr mwk mlf men)] ++ ws_10)) (va_runV (As := [.int 0, .int 2]) (rest := []) ⟨hx, hb, hml, hown, hts⟩ (m_X11_throwsIf l D ct S ws_10 ph xx mo mw ma mf m0 m1 mu mv u0 u1 iz mb th1_4 mn mpt mbg mwr mwk mlf men (0 : Int32) (2 : Int32) _ hT h_mu h_mv h_u0 h_u1 hph hy1 (by decide)) (cm_V 2 hts kc_X11_throwsIf ki_RX11 kl_RX11_328 kv_X11_throwsIf kx_X11_throwsIf kd_X11_throwsIf ⟨Nat.le_of_ble_eq_true rfl, Nat.le_of_ble_eq_true rfl⟩) (ty_preE (wr := [(rf_RW ct 0 ma 958 fa), (rf_RW ct 0 mw 958 f)]) (wc := ([(rf_MO mo mw ma mf m0 m1 mu mv u0 u1 iz th1_4 mb mn mpt mbg mwr mwk mlf men)] ++ ws_10)) (ci := 11) (q0 := 2) hP hK hD hS hA hX rfl rfl) rfl rfl hl.1 rfl (lv_room (Nat.le_of_ble_eq_true rfl)) dX11_peakTemperature_27 ⟨Nat.le_of_ble_eq_true rfl, Nat.le_of_ble_eq_true rfl⟩) hP hD hS hA (fun r_12 u H locs hw_13 hP hD hS => ?_)
      obtain ⟨ws_14, th1_15⟩ := u
      obtain ⟨hT, hp_16⟩ := hw_13
      have hp_16 : ((r_12 = 0 ∧ (0 : Int32) = 0) ∨ r_12 = 1) := hp_16
      have hP : va_P D vwCl ([(rf_RW ct 0 ma 958 fa), (rf_RW ct 0 mw 958 f), (rf_MO mo mw ma mf m0 m1 mu mv u0 u1 iz th1_15 mb mn mpt mbg mwr mwk mlf men)] ++ ws_14) H := hP
      have hD : va_D A ([(rf_RW ct 0 ma 958 fa), (rf_RW ct 0 mw 958 f), (rf_MO mo mw ma mf m0 m1 mu mv u0 u1 iz th1_15 mb mn mpt mbg mwr mwk mlf men)] ++ ws_14) := hD
      rcases hp_16 with ⟨rfl, hz_17⟩ | rfl
      · refine lv_if_eq (tgt := 35) hx hb dX11_peakTemperature_30 (by decide) (fun _ => ?_) (fun hc => absurd (by decide) hc)
        refine lv_aload_n hx hb dX11_peakTemperature_35 rfl (lv_at hl 0 rfl) ?_
        have hP : va_P D vwCl ([(rf_MO mo mw ma mf m0 m1 mu mv u0 u1 iz th1_15 mb mn mpt mbg mwr mwk mlf men), (rf_RW ct 0 mw 958 f), (rf_RW ct 0 ma 958 fa)] ++ ws_14) H := ty_permP hP (ty_ordp (E := [(rf_RW ct 0 ma 958 fa), (rf_RW ct 0 mw 958 f), (rf_MO mo mw ma mf m0 m1 mu mv u0 u1 iz th1_15 mb mn mpt mbg mwr mwk mlf men)]) (E2 := [(rf_MO mo mw ma mf m0 m1 mu mv u0 u1 iz th1_15 mb mn mpt mbg mwr mwk mlf men), (rf_RW ct 0 mw 958 f), (rf_RW ct 0 ma 958 fa)]) (n := 3) [2, 1, 0] rfl rfl (by decide))
        have hD : va_D A ([(rf_MO mo mw ma mf m0 m1 mu mv u0 u1 iz th1_15 mb mn mpt mbg mwr mwk mlf men), (rf_RW ct 0 mw 958 f), (rf_RW ct 0 ma 958 fa)] ++ ws_14) := ty_permD hD (ty_ordp (E := [(rf_RW ct 0 ma 958 fa), (rf_RW ct 0 mw 958 f), (rf_MO mo mw ma mf m0 m1 mu mv u0 u1 iz th1_15 mb mn mpt mbg mwr mwk mlf men)]) (E2 := [(rf_MO mo mw ma mf m0 m1 mu mv u0 u1 iz th1_15 mb mn mpt mbg mwr mwk mlf men), (rf_RW ct 0 mw 958 f), (rf_RW ct 0 ma 958 fa)]) (n := 3) [2, 1, 0] rfl rfl (by decide))
        refine ty_kv (wr := []) (wc := ([(rf_MO mo mw ma mf m0 m1 mu mv u0 u1 iz th1_15 mb mn mpt mbg mwr mwk mlf men), (rf_RW ct 0 mw 958 f), (rf_RW ct 0 ma 958 fa)] ++ ws_14)) (va_runV (As := []) (rest := []) ⟨hx, hb, hml, hown, hts⟩ (m_X11_goesAside l D ct S ws_14 ph xx mo mw ma mf m0 m1 mu mv u0 u1 iz mb th1_15 mn mpt mbg mwr mwk mlf men f G fa _ hT h_mu h_mv h_u0 h_u1 hph hy1 hy11 hR) (cm_V 0 hts kc_X11_goesAside ki_RX11 kl_RX11_379 kv_X11_goesAside kx_X11_goesAside kd_X11_goesAside ⟨Nat.le_of_ble_eq_true rfl, Nat.le_of_ble_eq_true rfl⟩) (ty_preE (wr := []) (wc := ([(rf_MO mo mw ma mf m0 m1 mu mv u0 u1 iz th1_15 mb mn mpt mbg mwr mwk mlf men), (rf_RW ct 0 mw 958 f), (rf_RW ct 0 ma 958 fa)] ++ ws_14)) (ci := 11) (q0 := 0) hP hK hD hS hA hX rfl rfl) rfl rfl hl.1 rfl (lv_room (Nat.le_of_ble_eq_true rfl)) dX11_peakTemperature_36 ⟨Nat.le_of_ble_eq_true rfl, Nat.le_of_ble_eq_true rfl⟩) hP hD hS hA (fun u H locs hw_19 hP hD hS => ?_)
        obtain ⟨ws_20, fa1_21⟩ := u
        obtain ⟨hT, hp_22⟩ := hw_19
        have hp_22 : rf_R G (-1) fa1_21 ∧ fa1_21 8 = f 8 := hp_22
        have hP : va_P D vwCl ([(rf_MO mo mw ma mf m0 m1 mu mv u0 u1 iz th1_15 mb mn mpt mbg mwr mwk mlf (0)), (rf_RW ct 0 mw 958 f), (rf_RW ct 0 ma 958 fa1_21)] ++ ws_20) H := hP
        have hD : va_D A ([(rf_MO mo mw ma mf m0 m1 mu mv u0 u1 iz th1_15 mb mn mpt mbg mwr mwk mlf (0)), (rf_RW ct 0 mw 958 f), (rf_RW ct 0 ma 958 fa1_21)] ++ ws_20) := hD
        refine lv_aload_n hx hb dX11_peakTemperature_39 rfl (lv_at hl 0 rfl) ?_
        refine lv_iload_n hx hb dX11_peakTemperature_40 rfl (lv_at hl 1 rfl) ?_
        refine lv_bipush (v := 9) hx hb dX11_peakTemperature_41 (by decide) ?_
        have hP : va_P D vwCl ([(rf_RW ct 0 ma 958 fa1_21), (rf_MO mo mw ma mf m0 m1 mu mv u0 u1 iz th1_15 mb mn mpt mbg mwr mwk mlf (0)), (rf_RW ct 0 mw 958 f)] ++ ws_20) H := ty_permP hP (ty_ordp (E := [(rf_MO mo mw ma mf m0 m1 mu mv u0 u1 iz th1_15 mb mn mpt mbg mwr mwk mlf (0)), (rf_RW ct 0 mw 958 f), (rf_RW ct 0 ma 958 fa1_21)]) (E2 := [(rf_RW ct 0 ma 958 fa1_21), (rf_MO mo mw ma mf m0 m1 mu mv u0 u1 iz th1_15 mb mn mpt mbg mwr mwk mlf (0)), (rf_RW ct 0 mw 958 f)]) (n := 3) [2, 0, 1] rfl rfl (by decide))
        have hD : va_D A ([(rf_RW ct 0 ma 958 fa1_21), (rf_MO mo mw ma mf m0 m1 mu mv u0 u1 iz th1_15 mb mn mpt mbg mwr mwk mlf (0)), (rf_RW ct 0 mw 958 f)] ++ ws_20) := ty_permD hD (ty_ordp (E := [(rf_MO mo mw ma mf m0 m1 mu mv u0 u1 iz th1_15 mb mn mpt mbg mwr mwk mlf (0)), (rf_RW ct 0 mw 958 f), (rf_RW ct 0 ma 958 fa1_21)]) (E2 := [(rf_RW ct 0 ma 958 fa1_21), (rf_MO mo mw ma mf m0 m1 mu mv u0 u1 iz th1_15 mb mn mpt mbg mwr mwk mlf (0)), (rf_RW ct 0 mw 958 f)]) (n := 3) [2, 0, 1] rfl rfl (by decide))
        refine ty_ki (wr := [(rf_RW ct 0 ma 958 fa1_21)]) (wc := ([(rf_MO mo mw ma mf m0 m1 mu mv u0 u1 iz th1_15 mb mn mpt mbg mwr mwk mlf (0)), (rf_RW ct 0 mw 958 f)] ++ ws_20)) (va_runV (As := [.int p1, .int 9]) (rest := []) ⟨hx, hb, hml, hown, hts⟩ (m_of_9 l D ct S ws_20 ph xx mo mw ma mf m0 m1 mu mv u0 u1 iz mb th1_15 mn mpt mbg mwr mwk mlf (0 : Int32) f G (-1) p1 _ hT h_mu h_mv h_u0 h_u1 hph hy1 hR hz_6) (cm_V 2 hts kc_X11_of ki_RX11 kl_RX11_209 kv_X11_of kx_X11_of kd_X11_of ⟨Nat.le_of_ble_eq_true rfl, Nat.le_of_ble_eq_true rfl⟩) (ty_preE (wr := [(rf_RW ct 0 ma 958 fa1_21)]) (wc := ([(rf_MO mo mw ma mf m0 m1 mu mv u0 u1 iz th1_15 mb mn mpt mbg mwr mwk mlf (0)), (rf_RW ct 0 mw 958 f)] ++ ws_20)) (ci := 11) (q0 := 1) hP hK hD hS hA hX rfl rfl) rfl rfl hl.1 rfl (lv_room (Nat.le_of_ble_eq_true rfl)) dX11_peakTemperature_43 ⟨Nat.le_of_ble_eq_true rfl, Nat.le_of_ble_eq_true rfl⟩) hP hD hS hA (fun r_23 u H locs hw_24 hP hD hS => ?_)
        obtain ⟨ws_25, rfl⟩ : ∃ z, z = u := ⟨_, rfl⟩
        obtain ⟨hT, rfl⟩ := hw_24
        have hP : va_P D vwCl ([(rf_RW ct 0 ma 958 fa1_21), (rf_MO mo mw ma mf m0 m1 mu mv u0 u1 iz th1_15 mb mn mpt mbg mwr mwk mlf (0)), (rf_RW ct 0 mw 958 f)] ++ ws_25) H := hP
        have hD : va_D A ([(rf_RW ct 0 ma 958 fa1_21), (rf_MO mo mw ma mf m0 m1 mu mv u0 u1 iz th1_15 mb mn mpt mbg mwr mwk mlf (0)), (rf_RW ct 0 mw 958 f)] ++ ws_25) := hD
        refine lv_istore_n (lv' := [(3, .int (rf_of f p1 9)), (0, .ref mo), (1, .int p1), (2, .int p2)]) hx hb dX11_peakTemperature_46 rfl hl (by decide) rfl (fun ls hl => ?_)
        refine lv_iconst (v := 0) hx hb dX11_peakTemperature_47 (by decide) ?_
        refine lv_istore (lv' := [(4, .int 0), (3, .int (rf_of f p1 9)), (0, .ref mo), (1, .int p1), (2, .int p2)]) hx hb dX11_peakTemperature_48 hl (by decide) rfl (fun ls hl => ?_)
        refine ty_loop (I := fun μ H locs ls => ∃ (ws : va_W) (y_26 : Int32) (y_27 : Int32) (y_28 : Int32) (f_29 : Nat → Int32), μ = (2147483648 - y_27.toInt).toNat ∧ ty_V ct S ph ws ∧ va_P D vwCl ([(rf_RW ct 0 ma 958 fa1_21), (rf_MO mo mw ma mf m0 m1 mu mv u0 u1 iz th1_15 mb mn mpt mbg mwr mwk mlf y_28), (rf_RW ct 0 mw 958 f_29)] ++ ws) H ∧ va_D A ([(rf_RW ct 0 ma 958 fa1_21), (rf_MO mo mw ma mf m0 m1 mu mv u0 u1 iz th1_15 mb mn mpt mbg mwr mwk mlf y_28), (rf_RW ct 0 mw 958 f_29)] ++ ws) ∧ va_S A s.heap H locs ∧ lv_has ls 5 [(0, .ref mo), (1, .int p1), (2, .int p2), (3, .int y_26), (4, .int y_27)] ∧ rf_R G (-1) f_29) ⟨_, ws_25, (rf_of f p1 9), (0 : Int32), (0 : Int32), f, rfl, hT, hP, hD, hS, (lv_sub hl [2, 3, 4, 1, 0] rfl), hR⟩ (fun μ H locs ls hI ih_50 => ?_)
        obtain ⟨ws, y_26, y_27, y_28, f_29, rfl, hT, hP, hD, hS, hl, hR_50⟩ := hI
        refine lv_iload hx hb dX11_peakTemperature_50 (lv_at hl 4 rfl) ?_
        refine lv_iload_n hx hb dX11_peakTemperature_52 rfl (lv_at hl 2 rfl) ?_
        refine lv_icmp_ge (tgt := 79) hx hb dX11_peakTemperature_53 (by decide) (fun hc_30 => ?_) (fun hc_30 => ?_)
        · refine lv_aload_n hx hb dX11_peakTemperature_79 rfl (lv_at hl 0 rfl) ?_
          have hP : va_P D vwCl ([(rf_MO mo mw ma mf m0 m1 mu mv u0 u1 iz th1_15 mb mn mpt mbg mwr mwk mlf y_28), (rf_RW ct 0 mw 958 f_29), (rf_RW ct 0 ma 958 fa1_21)] ++ ws) H := ty_permP hP (ty_ordp (E := [(rf_RW ct 0 ma 958 fa1_21), (rf_MO mo mw ma mf m0 m1 mu mv u0 u1 iz th1_15 mb mn mpt mbg mwr mwk mlf y_28), (rf_RW ct 0 mw 958 f_29)]) (E2 := [(rf_MO mo mw ma mf m0 m1 mu mv u0 u1 iz th1_15 mb mn mpt mbg mwr mwk mlf y_28), (rf_RW ct 0 mw 958 f_29), (rf_RW ct 0 ma 958 fa1_21)]) (n := 3) [1, 2, 0] rfl rfl (by decide))
          have hD : va_D A ([(rf_MO mo mw ma mf m0 m1 mu mv u0 u1 iz th1_15 mb mn mpt mbg mwr mwk mlf y_28), (rf_RW ct 0 mw 958 f_29), (rf_RW ct 0 ma 958 fa1_21)] ++ ws) := ty_permD hD (ty_ordp (E := [(rf_RW ct 0 ma 958 fa1_21), (rf_MO mo mw ma mf m0 m1 mu mv u0 u1 iz th1_15 mb mn mpt mbg mwr mwk mlf y_28), (rf_RW ct 0 mw 958 f_29)]) (E2 := [(rf_MO mo mw ma mf m0 m1 mu mv u0 u1 iz th1_15 mb mn mpt mbg mwr mwk mlf y_28), (rf_RW ct 0 mw 958 f_29), (rf_RW ct 0 ma 958 fa1_21)]) (n := 3) [1, 2, 0] rfl rfl (by decide))
          refine ty_kv (wr := []) (wc := ([(rf_MO mo mw ma mf m0 m1 mu mv u0 u1 iz th1_15 mb mn mpt mbg mwr mwk mlf y_28), (rf_RW ct 0 mw 958 f_29), (rf_RW ct 0 ma 958 fa1_21)] ++ ws)) (va_runV (As := []) (rest := []) ⟨hx, hb, hml, hown, hts⟩ (m_X11_comesBack l D ct S ws ph xx mo mw ma mf m0 m1 mu mv u0 u1 iz mb th1_15 mn mpt mbg mwr mwk mlf y_28 f_29 G fa1_21 _ hT h_mu h_mv h_u0 h_u1 hph hy1 hy11 hp_22.1) (cm_V 0 hts kc_X11_comesBack ki_RX11 kl_RX11_385 kv_X11_comesBack kx_X11_comesBack kd_X11_comesBack ⟨Nat.le_of_ble_eq_true rfl, Nat.le_of_ble_eq_true rfl⟩) (ty_preE (wr := []) (wc := ([(rf_MO mo mw ma mf m0 m1 mu mv u0 u1 iz th1_15 mb mn mpt mbg mwr mwk mlf y_28), (rf_RW ct 0 mw 958 f_29), (rf_RW ct 0 ma 958 fa1_21)] ++ ws)) (ci := 11) (q0 := 0) hP hK hD hS hA hX rfl rfl) rfl rfl hl.1 rfl (lv_room (Nat.le_of_ble_eq_true rfl)) dX11_peakTemperature_80 ⟨Nat.le_of_ble_eq_true rfl, Nat.le_of_ble_eq_true rfl⟩) hP hD hS hA (fun u H locs hw_32 hP hD hS => ?_)
          obtain ⟨ws_33, f1_34⟩ := u
          obtain ⟨hT, hp_35⟩ := hw_32
          have hp_35 : rf_R G (-1) f1_34 ∧ f1_34 8 = fa1_21 8 := hp_35
          have hR_36 := hp_35.1
          have hP : va_P D vwCl ([(rf_MO mo mw ma mf m0 m1 mu mv u0 u1 iz th1_15 mb mn mpt mbg mwr mwk mlf y_28), (rf_RW ct 0 mw 958 f1_34), (rf_RW ct 0 ma 958 fa1_21)] ++ ws_33) H := hP
          have hD : va_D A ([(rf_MO mo mw ma mf m0 m1 mu mv u0 u1 iz th1_15 mb mn mpt mbg mwr mwk mlf y_28), (rf_RW ct 0 mw 958 f1_34), (rf_RW ct 0 ma 958 fa1_21)] ++ ws_33) := hD
          have hD_38 := rf_dg (rf_dr f) hp_22.2 hp_35.2
          refine lv_iload_n hx hb dX11_peakTemperature_83 rfl (lv_at hl 3 rfl) ?_
          exact W.iret (v := y_26) hx hb hr (fun t ht hW => ⟨⟨y_26, (ws_33, y_28, th1_15, f1_34, fa1_21), rfl, ⟨hT, ⟨hD_38, hR_36⟩⟩, by rw [ht]; exact hP, by rw [hAe]; exact hD⟩, hS.F ht⟩) hS.2.2 dX11_peakTemperature_84
        · refine lv_aload_n hx hb dX11_peakTemperature_56 rfl (lv_at hl 0 rfl) ?_
          refine lv_iload_n hx hb dX11_peakTemperature_57 rfl (lv_at hl 1 rfl) ?_
          refine ty_kv (wr := [(rf_RW ct 0 ma 958 fa1_21)]) (wc := ([(rf_MO mo mw ma mf m0 m1 mu mv u0 u1 iz th1_15 mb mn mpt mbg mwr mwk mlf y_28), (rf_RW ct 0 mw 958 f_29)] ++ ws)) (va_runV (As := [.int p1]) (rest := []) ⟨hx, hb, hml, hown, hts⟩ (m_X11_alone l D ct S ws ph xx mo mw ma mf m0 m1 mu mv u0 u1 iz mb th1_15 mn mpt mbg mwr mwk mlf y_28 f_29 G p1 _ hT h_mu h_mv h_u0 h_u1 hph hy1 hy11 hR_50 hz_6) (cm_V 1 hts kc_X11_alone ki_RX11 kl_RX11_382 kv_X11_alone kx_X11_alone kd_X11_alone ⟨Nat.le_of_ble_eq_true rfl, Nat.le_of_ble_eq_true rfl⟩) (ty_preE (wr := [(rf_RW ct 0 ma 958 fa1_21)]) (wc := ([(rf_MO mo mw ma mf m0 m1 mu mv u0 u1 iz th1_15 mb mn mpt mbg mwr mwk mlf y_28), (rf_RW ct 0 mw 958 f_29)] ++ ws)) (ci := 11) (q0 := 1) hP hK hD hS hA hX rfl rfl) rfl rfl hl.1 rfl (lv_room (Nat.le_of_ble_eq_true rfl)) dX11_peakTemperature_58 ⟨Nat.le_of_ble_eq_true rfl, Nat.le_of_ble_eq_true rfl⟩) hP hD hS hA (fun u H locs hw_40 hP hD hS => ?_)
          obtain ⟨ws_41, men1_42, f1_43⟩ := u
          obtain ⟨hT, hp_44⟩ := hw_40
          have hp_44 : rf_d ((f_29 8) + 1) f_29 f1_43 ∧ rf_R G (-1) f1_43 := hp_44
          obtain ⟨hd_45, hq_46⟩ := hp_44
          have hR_47 := hq_46
          have hP : va_P D vwCl ([(rf_RW ct 0 ma 958 fa1_21), (rf_MO mo mw ma mf m0 m1 mu mv u0 u1 iz th1_15 mb mn mpt mbg mwr mwk mlf men1_42), (rf_RW ct 0 mw 958 f1_43)] ++ ws_41) H := hP
          have hD : va_D A ([(rf_RW ct 0 ma 958 fa1_21), (rf_MO mo mw ma mf m0 m1 mu mv u0 u1 iz th1_15 mb mn mpt mbg mwr mwk mlf men1_42), (rf_RW ct 0 mw 958 f1_43)] ++ ws_41) := hD
          refine lv_iload_n hx hb dX11_peakTemperature_61 rfl (lv_at hl 3 rfl) ?_
          refine lv_aload_n hx hb dX11_peakTemperature_62 rfl (lv_at hl 0 rfl) ?_
          refine lv_iload_n hx hb dX11_peakTemperature_63 rfl (lv_at hl 1 rfl) ?_
          refine lv_bipush (v := 9) hx hb dX11_peakTemperature_64 (by decide) ?_
          refine ty_ki (wr := [(rf_RW ct 0 ma 958 fa1_21)]) (wc := ([(rf_MO mo mw ma mf m0 m1 mu mv u0 u1 iz th1_15 mb mn mpt mbg mwr mwk mlf men1_42), (rf_RW ct 0 mw 958 f1_43)] ++ ws_41)) (va_runV (As := [.int p1, .int 9]) (rest := [.int y_26]) ⟨hx, hb, hml, hown, hts⟩ (m_of_9 l D ct S ws_41 ph xx mo mw ma mf m0 m1 mu mv u0 u1 iz mb th1_15 mn mpt mbg mwr mwk mlf men1_42 f1_43 G (-1) p1 _ hT h_mu h_mv h_u0 h_u1 hph hy1 hR_47 hz_6) (cm_V 2 hts kc_X11_of ki_RX11 kl_RX11_209 kv_X11_of kx_X11_of kd_X11_of ⟨Nat.le_of_ble_eq_true rfl, Nat.le_of_ble_eq_true rfl⟩) (ty_preE (wr := [(rf_RW ct 0 ma 958 fa1_21)]) (wc := ([(rf_MO mo mw ma mf m0 m1 mu mv u0 u1 iz th1_15 mb mn mpt mbg mwr mwk mlf men1_42), (rf_RW ct 0 mw 958 f1_43)] ++ ws_41)) (ci := 11) (q0 := 1) hP hK hD hS hA hX rfl rfl) rfl rfl hl.1 rfl (lv_room (Nat.le_of_ble_eq_true rfl)) dX11_peakTemperature_66 ⟨Nat.le_of_ble_eq_true rfl, Nat.le_of_ble_eq_true rfl⟩) hP hD hS hA (fun r_49 u H locs hw_50 hP hD hS => ?_)
          obtain ⟨ws_51, rfl⟩ : ∃ z, z = u := ⟨_, rfl⟩
          obtain ⟨hT, rfl⟩ := hw_50
          have hP : va_P D vwCl ([(rf_RW ct 0 ma 958 fa1_21), (rf_MO mo mw ma mf m0 m1 mu mv u0 u1 iz th1_15 mb mn mpt mbg mwr mwk mlf men1_42), (rf_RW ct 0 mw 958 f1_43)] ++ ws_51) H := hP
          have hD : va_D A ([(rf_RW ct 0 ma 958 fa1_21), (rf_MO mo mw ma mf m0 m1 mu mv u0 u1 iz th1_15 mb mn mpt mbg mwr mwk mlf men1_42), (rf_RW ct 0 mw 958 f1_43)] ++ ws_51) := hD
          refine va_mmax hx hb (hml.trans hl.1.symm) hown (hts _ kl_RX11_225) (hts _ jm_max_s) (hts _ ki_RJ9) (hts _ jm_max_c) (Nat.le_of_ble_eq_true rfl) (Nat.le_of_ble_eq_true rfl) (Nat.le_of_ble_eq_true rfl) (Nat.le_of_ble_eq_true rfl) dX11_peakTemperature_69 ?_
          refine lv_topi (fun x_52 _ => ?_)
          refine lv_istore_n (lv' := [(3, .int x_52), (0, .ref mo), (1, .int p1), (2, .int p2), (4, .int y_27)]) hx hb dX11_peakTemperature_72 rfl hl (by decide) rfl (fun ls hl => ?_)
          refine lv_iinc (v := (y_27 + Int32.ofInt 1)) (lv' := [(4, .int (y_27 + Int32.ofInt 1)), (3, .int x_52), (0, .ref mo), (1, .int p1), (2, .int p2)]) hx hb dX11_peakTemperature_73 hl (k := 4) rfl rfl (by decide) rfl (fun ls hl => ?_)
          refine lv_goto (tgt := 50) hx hb dX11_peakTemperature_76 (by decide) ?_
          exact ih_50 _ _ _ _ (ty_inc (cm_lt hc_30)) ⟨ws_51, x_52, (y_27 + Int32.ofInt 1), men1_42, f1_43, rfl, hT, hP, hD, hS, (lv_sub hl [2, 3, 4, 1, 0] rfl), hR_47⟩
      · refine lv_if_eq (tgt := 35) hx hb dX11_peakTemperature_30 (by decide) (fun hc => absurd hc (by decide)) (fun _ => ?_)
        refine lv_iconst (v := 0) hx hb dX11_peakTemperature_33 (by decide) ?_
        have hP : va_P D vwCl ([(rf_MO mo mw ma mf m0 m1 mu mv u0 u1 iz th1_15 mb mn mpt mbg mwr mwk mlf men), (rf_RW ct 0 mw 958 f), (rf_RW ct 0 ma 958 fa)] ++ ws_14) H := ty_permP hP (ty_ordp (E := [(rf_RW ct 0 ma 958 fa), (rf_RW ct 0 mw 958 f), (rf_MO mo mw ma mf m0 m1 mu mv u0 u1 iz th1_15 mb mn mpt mbg mwr mwk mlf men)]) (E2 := [(rf_MO mo mw ma mf m0 m1 mu mv u0 u1 iz th1_15 mb mn mpt mbg mwr mwk mlf men), (rf_RW ct 0 mw 958 f), (rf_RW ct 0 ma 958 fa)]) (n := 3) [2, 1, 0] rfl rfl (by decide))
        have hD : va_D A ([(rf_MO mo mw ma mf m0 m1 mu mv u0 u1 iz th1_15 mb mn mpt mbg mwr mwk mlf men), (rf_RW ct 0 mw 958 f), (rf_RW ct 0 ma 958 fa)] ++ ws_14) := ty_permD hD (ty_ordp (E := [(rf_RW ct 0 ma 958 fa), (rf_RW ct 0 mw 958 f), (rf_MO mo mw ma mf m0 m1 mu mv u0 u1 iz th1_15 mb mn mpt mbg mwr mwk mlf men)]) (E2 := [(rf_MO mo mw ma mf m0 m1 mu mv u0 u1 iz th1_15 mb mn mpt mbg mwr mwk mlf men), (rf_RW ct 0 mw 958 f), (rf_RW ct 0 ma 958 fa)]) (n := 3) [2, 1, 0] rfl rfl (by decide))
        exact W.iret (v := 0) hx hb hr (fun t ht hW => ⟨⟨0, (ws_14, men, th1_15, f, fa), rfl, ⟨hT, ⟨(rf_dr f), hR⟩⟩, by rw [ht]; exact hP, by rw [hAe]; exact hD⟩, hS.F ht⟩) hS.2.2 dX11_peakTemperature_34
    · refine lv_iconst (v := 1) hx hb dX11_peakTemperature_21 (by decide) ?_
      refine lv_goto (tgt := 26) hx hb dX11_peakTemperature_22 (by decide) ?_
      refine lv_iconst (v := 2) hx hb dX11_peakTemperature_26 (by decide) ?_
      have hP : va_P D vwCl ([(rf_RW ct 0 ma 958 fa), (rf_RW ct 0 mw 958 f), (rf_MO mo mw ma mf m0 m1 mu mv u0 u1 iz th1_4 mb mn mpt mbg mwr mwk mlf men)] ++ ws_10) H := ty_permP hP (ty_ordp (E := [(rf_RW ct 0 ma 958 fa), (rf_MO mo mw ma mf m0 m1 mu mv u0 u1 iz th1_4 mb mn mpt mbg mwr mwk mlf men), (rf_RW ct 0 mw 958 f)]) (E2 := [(rf_RW ct 0 ma 958 fa), (rf_RW ct 0 mw 958 f), (rf_MO mo mw ma mf m0 m1 mu mv u0 u1 iz th1_4 mb mn mpt mbg mwr mwk mlf men)]) (n := 3) [0, 2, 1] rfl rfl (by decide))
      have hD : va_D A ([(rf_RW ct 0 ma 958 fa), (rf_RW ct 0 mw 958 f), (rf_MO mo mw ma mf m0 m1 mu mv u0 u1 iz th1_4 mb mn mpt mbg mwr mwk mlf men)] ++ ws_10) := ty_permD hD (ty_ordp (E := [(rf_RW ct 0 ma 958 fa), (rf_MO mo mw ma mf m0 m1 mu mv u0 u1 iz th1_4 mb mn mpt mbg mwr mwk mlf men), (rf_RW ct 0 mw 958 f)]) (E2 := [(rf_RW ct 0 ma 958 fa), (rf_RW ct 0 mw 958 f), (rf_MO mo mw ma mf m0 m1 mu mv u0 u1 iz th1_4 mb mn mpt mbg mwr mwk mlf men)]) (n := 3) [0, 2, 1] rfl rfl (by decide))
      refine ty_ki (wr := [(rf_RW ct 0 ma 958 fa), (rf_RW ct 0 mw 958 f)]) (wc := ([(rf_MO mo mw ma mf m0 m1 mu mv u0 u1 iz th1_4 mb mn mpt mbg mwr mwk mlf men)] ++ ws_10)) (va_runV (As := [.int 1, .int 2]) (rest := []) ⟨hx, hb, hml, hown, hts⟩ (m_X11_throwsIf l D ct S ws_10 ph xx mo mw ma mf m0 m1 mu mv u0 u1 iz mb th1_4 mn mpt mbg mwr mwk mlf men (1 : Int32) (2 : Int32) _ hT h_mu h_mv h_u0 h_u1 hph hy1 (by decide)) (cm_V 2 hts kc_X11_throwsIf ki_RX11 kl_RX11_328 kv_X11_throwsIf kx_X11_throwsIf kd_X11_throwsIf ⟨Nat.le_of_ble_eq_true rfl, Nat.le_of_ble_eq_true rfl⟩) (ty_preE (wr := [(rf_RW ct 0 ma 958 fa), (rf_RW ct 0 mw 958 f)]) (wc := ([(rf_MO mo mw ma mf m0 m1 mu mv u0 u1 iz th1_4 mb mn mpt mbg mwr mwk mlf men)] ++ ws_10)) (ci := 11) (q0 := 2) hP hK hD hS hA hX rfl rfl) rfl rfl hl.1 rfl (lv_room (Nat.le_of_ble_eq_true rfl)) dX11_peakTemperature_27 ⟨Nat.le_of_ble_eq_true rfl, Nat.le_of_ble_eq_true rfl⟩) hP hD hS hA (fun r_53 u H locs hw_54 hP hD hS => ?_)
      obtain ⟨ws_55, th1_56⟩ := u
      obtain ⟨hT, hp_57⟩ := hw_54
      have hp_57 : ((r_53 = 0 ∧ (1 : Int32) = 0) ∨ r_53 = 1) := hp_57
      have hP : va_P D vwCl ([(rf_RW ct 0 ma 958 fa), (rf_RW ct 0 mw 958 f), (rf_MO mo mw ma mf m0 m1 mu mv u0 u1 iz th1_56 mb mn mpt mbg mwr mwk mlf men)] ++ ws_55) H := hP
      have hD : va_D A ([(rf_RW ct 0 ma 958 fa), (rf_RW ct 0 mw 958 f), (rf_MO mo mw ma mf m0 m1 mu mv u0 u1 iz th1_56 mb mn mpt mbg mwr mwk mlf men)] ++ ws_55) := hD
      rcases hp_57 with ⟨rfl, hz_58⟩ | rfl
      · exact absurd hz_58 (by decide)
      · refine lv_if_eq (tgt := 35) hx hb dX11_peakTemperature_30 (by decide) (fun hc => absurd hc (by decide)) (fun _ => ?_)
        refine lv_iconst (v := 0) hx hb dX11_peakTemperature_33 (by decide) ?_
        have hP : va_P D vwCl ([(rf_MO mo mw ma mf m0 m1 mu mv u0 u1 iz th1_56 mb mn mpt mbg mwr mwk mlf men), (rf_RW ct 0 mw 958 f), (rf_RW ct 0 ma 958 fa)] ++ ws_55) H := ty_permP hP (ty_ordp (E := [(rf_RW ct 0 ma 958 fa), (rf_RW ct 0 mw 958 f), (rf_MO mo mw ma mf m0 m1 mu mv u0 u1 iz th1_56 mb mn mpt mbg mwr mwk mlf men)]) (E2 := [(rf_MO mo mw ma mf m0 m1 mu mv u0 u1 iz th1_56 mb mn mpt mbg mwr mwk mlf men), (rf_RW ct 0 mw 958 f), (rf_RW ct 0 ma 958 fa)]) (n := 3) [2, 1, 0] rfl rfl (by decide))
        have hD : va_D A ([(rf_MO mo mw ma mf m0 m1 mu mv u0 u1 iz th1_56 mb mn mpt mbg mwr mwk mlf men), (rf_RW ct 0 mw 958 f), (rf_RW ct 0 ma 958 fa)] ++ ws_55) := ty_permD hD (ty_ordp (E := [(rf_RW ct 0 ma 958 fa), (rf_RW ct 0 mw 958 f), (rf_MO mo mw ma mf m0 m1 mu mv u0 u1 iz th1_56 mb mn mpt mbg mwr mwk mlf men)]) (E2 := [(rf_MO mo mw ma mf m0 m1 mu mv u0 u1 iz th1_56 mb mn mpt mbg mwr mwk mlf men), (rf_RW ct 0 mw 958 f), (rf_RW ct 0 ma 958 fa)]) (n := 3) [2, 1, 0] rfl rfl (by decide))
        exact W.iret (v := 0) hx hb hr (fun t ht hW => ⟨⟨0, (ws_55, men, th1_56, f, fa), rfl, ⟨hT, ⟨(rf_dr f), hR⟩⟩, by rw [ht]; exact hP, by rw [hAe]; exact hD⟩, hS.F ht⟩) hS.2.2 dX11_peakTemperature_34
  · refine lv_if_ne (tgt := 33) hx hb dX11_peakTemperature_5 (by decide) (fun _ => ?_) (fun hc => absurd hc (by decide))
    refine lv_iconst (v := 0) hx hb dX11_peakTemperature_33 (by decide) ?_
    have hP : va_P D vwCl ([(rf_MO mo mw ma mf m0 m1 mu mv u0 u1 iz th1_4 mb mn mpt mbg mwr mwk mlf men), (rf_RW ct 0 mw 958 f), (rf_RW ct 0 ma 958 fa)] ++ ws_3) H := ty_permP hP (ty_ordp (E := [(rf_RW ct 0 ma 958 fa), (rf_MO mo mw ma mf m0 m1 mu mv u0 u1 iz th1_4 mb mn mpt mbg mwr mwk mlf men), (rf_RW ct 0 mw 958 f)]) (E2 := [(rf_MO mo mw ma mf m0 m1 mu mv u0 u1 iz th1_4 mb mn mpt mbg mwr mwk mlf men), (rf_RW ct 0 mw 958 f), (rf_RW ct 0 ma 958 fa)]) (n := 3) [1, 2, 0] rfl rfl (by decide))
    have hD : va_D A ([(rf_MO mo mw ma mf m0 m1 mu mv u0 u1 iz th1_4 mb mn mpt mbg mwr mwk mlf men), (rf_RW ct 0 mw 958 f), (rf_RW ct 0 ma 958 fa)] ++ ws_3) := ty_permD hD (ty_ordp (E := [(rf_RW ct 0 ma 958 fa), (rf_MO mo mw ma mf m0 m1 mu mv u0 u1 iz th1_4 mb mn mpt mbg mwr mwk mlf men), (rf_RW ct 0 mw 958 f)]) (E2 := [(rf_MO mo mw ma mf m0 m1 mu mv u0 u1 iz th1_4 mb mn mpt mbg mwr mwk mlf men), (rf_RW ct 0 mw 958 f), (rf_RW ct 0 ma 958 fa)]) (n := 3) [1, 2, 0] rfl rfl (by decide))
    exact W.iret (v := 0) hx hb hr (fun t ht hW => ⟨⟨0, (ws_3, men, th1_4, f, fa), rfl, ⟨hT, ⟨(rf_dr f), hR⟩⟩, by rw [ht]; exact hP, by rw [hAe]; exact hD⟩, hS.F ht⟩) hS.2.2 dX11_peakTemperature_34
theorem dX11_settledIn_0 : decode cX11_settledIn 0 = .ok (.aload_n 0, 1) := by decide +kernel
theorem dX11_settledIn_1 : decode cX11_settledIn 1 = .ok (.iload_n 1, 1) := by decide +kernel
theorem dX11_settledIn_2 : decode cX11_settledIn 2 = .ok (.invokevirtual 344, 3) := by decide +kernel
theorem dX11_settledIn_5 : decode cX11_settledIn 5 = .ok (.ifCond .eq 5, 3) := by decide +kernel
theorem dX11_settledIn_8 : decode cX11_settledIn 8 = .ok (.iconst 0, 1) := by decide +kernel
theorem dX11_settledIn_9 : decode cX11_settledIn 9 = .ok (.ireturn, 1) := by decide +kernel
theorem dX11_settledIn_10 : decode cX11_settledIn 10 = .ok (.aload_n 0, 1) := by decide +kernel
theorem dX11_settledIn_11 : decode cX11_settledIn 11 = .ok (.iload_n 1, 1) := by decide +kernel
theorem dX11_settledIn_12 : decode cX11_settledIn 12 = .ok (.iconst 1, 1) := by decide +kernel
theorem dX11_settledIn_13 : decode cX11_settledIn 13 = .ok (.invokevirtual 350, 3) := by decide +kernel
theorem dX11_settledIn_16 : decode cX11_settledIn 16 = .ok (.ifCond .eq 5, 3) := by decide +kernel
theorem dX11_settledIn_19 : decode cX11_settledIn 19 = .ok (.iconst (-1), 1) := by decide +kernel
theorem dX11_settledIn_20 : decode cX11_settledIn 20 = .ok (.ireturn, 1) := by decide +kernel
theorem dX11_settledIn_21 : decode cX11_settledIn 21 = .ok (.aload_n 0, 1) := by decide +kernel
theorem dX11_settledIn_22 : decode cX11_settledIn 22 = .ok (.invokevirtual 379, 3) := by decide +kernel
theorem dX11_settledIn_25 : decode cX11_settledIn 25 = .ok (.iconst 0, 1) := by decide +kernel
theorem dX11_settledIn_26 : decode cX11_settledIn 26 = .ok (.istore_n 2, 1) := by decide +kernel
theorem dX11_settledIn_27 : decode cX11_settledIn 27 = .ok (.aload_n 0, 1) := by decide +kernel
theorem dX11_settledIn_28 : decode cX11_settledIn 28 = .ok (.iload_n 1, 1) := by decide +kernel
theorem dX11_settledIn_29 : decode cX11_settledIn 29 = .ok (.bipush 8, 2) := by decide +kernel
theorem dX11_settledIn_31 : decode cX11_settledIn 31 = .ok (.invokevirtual 209, 3) := by decide +kernel
theorem dX11_settledIn_34 : decode cX11_settledIn 34 = .ok (.ifCond .eq 21, 3) := by decide +kernel
theorem dX11_settledIn_37 : decode cX11_settledIn 37 = .ok (.iload_n 2, 1) := by decide +kernel
theorem dX11_settledIn_38 : decode cX11_settledIn 38 = .ok (.sipush 10000, 3) := by decide +kernel
theorem dX11_settledIn_41 : decode cX11_settledIn 41 = .ok (.if_icmp .gt 14, 3) := by decide +kernel
theorem dX11_settledIn_44 : decode cX11_settledIn 44 = .ok (.aload_n 0, 1) := by decide +kernel
theorem dX11_settledIn_45 : decode cX11_settledIn 45 = .ok (.iload_n 1, 1) := by decide +kernel
theorem dX11_settledIn_46 : decode cX11_settledIn 46 = .ok (.invokevirtual 382, 3) := by decide +kernel
theorem dX11_settledIn_49 : decode cX11_settledIn 49 = .ok (.iinc 2 1, 3) := by decide +kernel
theorem dX11_settledIn_52 : decode cX11_settledIn 52 = .ok (.goto (-25), 3) := by decide +kernel
theorem dX11_settledIn_55 : decode cX11_settledIn 55 = .ok (.aload_n 0, 1) := by decide +kernel
theorem dX11_settledIn_56 : decode cX11_settledIn 56 = .ok (.invokevirtual 385, 3) := by decide +kernel
theorem dX11_settledIn_59 : decode cX11_settledIn 59 = .ok (.iload_n 2, 1) := by decide +kernel
theorem dX11_settledIn_60 : decode cX11_settledIn 60 = .ok (.sipush 10000, 3) := by decide +kernel
theorem dX11_settledIn_63 : decode cX11_settledIn 63 = .ok (.if_icmp .le 7, 3) := by decide +kernel
theorem dX11_settledIn_66 : decode cX11_settledIn 66 = .ok (.iconst (-1), 1) := by decide +kernel
theorem dX11_settledIn_67 : decode cX11_settledIn 67 = .ok (.goto 4, 3) := by decide +kernel
theorem dX11_settledIn_70 : decode cX11_settledIn 70 = .ok (.iload_n 2, 1) := by decide +kernel
theorem dX11_settledIn_71 : decode cX11_settledIn 71 = .ok (.ireturn, 1) := by decide +kernel
set_option maxRecDepth 100000 in
set_option maxHeartbeats 4000000 in
theorem m_X11_settledIn (l : Launch) (D : va_G) (ct : Nat → ClassId) (S : ty_S) (ws : va_W) (ph : va_W → Prop) (xx : Nat → Nat → Nat → Prop) (mo : Nat) (mw : Nat) (ma : Nat) (mf : Nat) (m0 : Nat) (m1 : Nat) (mu : Nat) (mv : Nat) (u0 : Nat) (u1 : Nat) (iz : Nat) (mb : Nat) (th : Int32) (mn : Int32) (mpt : Int32) (mbg : Int32) (mwr : Int32) (mwk : Int32) (mlf : Int32) (men : Int32) (f : Nat → Int32) (G : Nat → Int32) (fa : Nat → Int32) (p1 : Int32) (sz : Nat) (hT : ty_V ct S ph ws) (h_mu : S mu = some (.inr (1, 42))) (h_mv : S mv = some (.inr (1, 42))) (h_u0 : S u0 = some (.inr (1, 42))) (h_u1 : S u1 = some (.inr (1, 42))) (hph : ty_C ph xx) (hy1 : ty_y1 xx) (hy11 : ty_y0 xx 11) (hR : rf_R G (-1) f) : Met l yX11_settledIn (ws_ yX11_settledIn cX11_settledIn 3 (some .int)) ({ frames := 8, cells := 0, slots := 0, locals := 186 } : Room) (va_Pc [.ref mo, .int p1] (cmP D ct sz ([(rf_MO mo mw ma mf m0 m1 mu mv u0 u1 iz th mb mn mpt mbg mwr mwk mlf men), (rf_RW ct 0 mw 958 f), (rf_RW ct 0 ma 958 fa)] ++ ws))) (va_Qi (fun (r : Int32) (u : va_W × Int32 × Int32 × (Nat → Int32) × (Nat → Int32)) => match u with | (u9, men1, th1, f1, fa1) => ty_V ct S ph u9 ∧ rf_d (f 8) f f1 ∧ rf_R G (-1) f1) (cmB D ([(rf_MO mo mw ma mf m0 m1 mu mv u0 u1 iz th mb mn mpt mbg mwr mwk mlf men), (rf_RW ct 0 mw 958 f), (rf_RW ct 0 ma 958 fa)] ++ ws) sz (fun (u : va_W × Int32 × Int32 × (Nat → Int32) × (Nat → Int32)) => match u with | (u9, men1, th1, f1, fa1) => ([(rf_MO mo mw ma mf m0 m1 mu mv u0 u1 iz th1 mb mn mpt mbg mwr mwk mlf men1), (rf_RW ct 0 mw 958 f1), (rf_RW ct 0 ma 958 fa1)] ++ u9))) (va_A ([(rf_MO mo mw ma mf m0 m1 mu mv u0 u1 iz th mb mn mpt mbg mwr mwk mlf men), (rf_RW ct 0 mw 958 f), (rf_RW ct 0 ma 958 fa)] ++ ws) sz)) 0 0 (va_A ([(rf_MO mo mw ma mf m0 m1 mu mv u0 u1 iz th mb mn mpt mbg mwr mwk mlf men), (rf_RW ct 0 mw 958 f), (rf_RW ct 0 ma 958 fa)] ++ ws) sz) := by
  refine Met.ofW (cc := cX11_settledIn) (maxL := 3) (ret := (some .int)) (by decide) rfl ?_
  intro p e s m args below meth c s₁ B hml hv
  obtain ⟨rfl, hsz, hP, hK, hD0, hX⟩ := hv
  have hx := B.exec
  have hb := B.bytes
  have hr := B.returns
  have hts := ws_all (atoms_spec (ws := ws_ yX11_settledIn cX11_settledIn 3 (some .int)) B.pre)
  have hown : s.vm.findClass RX11 = some m.cls := findClass_of_methodNamed B.named
  have hlocks := B.notSynchronized
  subst hsz
  have hD := hD0.self (sz := s.heap.size)
  generalize hAe : va_A ([(rf_MO mo mw ma mf m0 m1 mu mv u0 u1 iz th mb mn mpt mbg mwr mwk mlf men), (rf_RW ct 0 mw 958 f), (rf_RW ct 0 ma 958 fa)] ++ ws) s.heap.size = A at hD hX ⊢
  have hA : ∀ q : Nat, s.heap.size ≤ q → A q := fun q h => by rw [← hAe]; exact Or.inr h
  have hS : va_S A s.heap s.heap [] := va_S.rf
  have hl := lv_entry ([.ref mo, .int p1]) (n := 3) (Nat.le_of_ble_eq_true rfl)
  rw [lg_entry_eq]
  generalize (lg_sl ([.ref mo, .int p1]) ++ List.replicate (3 - (lg_sl ([.ref mo, .int p1])).length) Slot.unset).toArray = ls at hl ⊢
  have hl : lv_has ls 3 [(0, .ref mo), (1, .int p1)] := hl
  refine lv_aload_n hx hb dX11_settledIn_0 rfl (lv_at hl 0 rfl) ?_
  refine lv_iload_n hx hb dX11_settledIn_1 rfl (lv_at hl 1 rfl) ?_
  have hP : va_P D vwCl ([(rf_RW ct 0 ma 958 fa), (rf_MO mo mw ma mf m0 m1 mu mv u0 u1 iz th mb mn mpt mbg mwr mwk mlf men), (rf_RW ct 0 mw 958 f)] ++ ws) s.heap := ty_permP hP (ty_ordp (E := [(rf_MO mo mw ma mf m0 m1 mu mv u0 u1 iz th mb mn mpt mbg mwr mwk mlf men), (rf_RW ct 0 mw 958 f), (rf_RW ct 0 ma 958 fa)]) (E2 := [(rf_RW ct 0 ma 958 fa), (rf_MO mo mw ma mf m0 m1 mu mv u0 u1 iz th mb mn mpt mbg mwr mwk mlf men), (rf_RW ct 0 mw 958 f)]) (n := 3) [2, 0, 1] rfl rfl (by decide))
  have hD : va_D A ([(rf_RW ct 0 ma 958 fa), (rf_MO mo mw ma mf m0 m1 mu mv u0 u1 iz th mb mn mpt mbg mwr mwk mlf men), (rf_RW ct 0 mw 958 f)] ++ ws) := ty_permD hD (ty_ordp (E := [(rf_MO mo mw ma mf m0 m1 mu mv u0 u1 iz th mb mn mpt mbg mwr mwk mlf men), (rf_RW ct 0 mw 958 f), (rf_RW ct 0 ma 958 fa)]) (E2 := [(rf_RW ct 0 ma 958 fa), (rf_MO mo mw ma mf m0 m1 mu mv u0 u1 iz th mb mn mpt mbg mwr mwk mlf men), (rf_RW ct 0 mw 958 f)]) (n := 3) [2, 0, 1] rfl rfl (by decide))
  refine ty_ki (wr := [(rf_RW ct 0 ma 958 fa)]) (wc := ([(rf_MO mo mw ma mf m0 m1 mu mv u0 u1 iz th mb mn mpt mbg mwr mwk mlf men), (rf_RW ct 0 mw 958 f)] ++ ws)) (va_runV (As := [.int p1]) (rest := []) ⟨hx, hb, hml, hown, hts⟩ (m_X11_noChannel l D ct S ws ph xx mo mw ma mf m0 m1 mu mv u0 u1 iz mb th mn mpt mbg mwr mwk mlf men f G (-1) p1 _ hT h_mu h_mv h_u0 h_u1 hph hy1 hR) (cm_V 1 hts kc_X11_noChannel ki_RX11 kl_RX11_344 kv_X11_noChannel kx_X11_noChannel kd_X11_noChannel ⟨Nat.le_of_ble_eq_true rfl, Nat.le_of_ble_eq_true rfl⟩) (ty_preE (wr := [(rf_RW ct 0 ma 958 fa)]) (wc := ([(rf_MO mo mw ma mf m0 m1 mu mv u0 u1 iz th mb mn mpt mbg mwr mwk mlf men), (rf_RW ct 0 mw 958 f)] ++ ws)) (ci := 11) (q0 := 1) hP hK hD hS hA hX rfl rfl) rfl rfl hl.1 rfl (lv_room (Nat.le_of_ble_eq_true rfl)) dX11_settledIn_2 ⟨Nat.le_of_ble_eq_true rfl, Nat.le_of_ble_eq_true rfl⟩) hP hD hS hA (fun r_1 u H locs hw_2 hP hD hS => ?_)
  obtain ⟨ws_3, th1_4⟩ := u
  obtain ⟨hT, hp_5⟩ := hw_2
  have hp_5 : ((r_1 = 0 ∧ 0 ≤ p1.toInt ∧ p1.toInt < (G 9).toInt) ∨ r_1 = 1) := hp_5
  have hP : va_P D vwCl ([(rf_RW ct 0 ma 958 fa), (rf_MO mo mw ma mf m0 m1 mu mv u0 u1 iz th1_4 mb mn mpt mbg mwr mwk mlf men), (rf_RW ct 0 mw 958 f)] ++ ws_3) H := hP
  have hD : va_D A ([(rf_RW ct 0 ma 958 fa), (rf_MO mo mw ma mf m0 m1 mu mv u0 u1 iz th1_4 mb mn mpt mbg mwr mwk mlf men), (rf_RW ct 0 mw 958 f)] ++ ws_3) := hD
  rcases hp_5 with ⟨rfl, hz_6⟩ | rfl
  · refine lv_if_eq (tgt := 10) hx hb dX11_settledIn_5 (by decide) (fun _ => ?_) (fun hc => absurd (by decide) hc)
    refine lv_aload_n hx hb dX11_settledIn_10 rfl (lv_at hl 0 rfl) ?_
    refine lv_iload_n hx hb dX11_settledIn_11 rfl (lv_at hl 1 rfl) ?_
    refine lv_iconst (v := 1) hx hb dX11_settledIn_12 (by decide) ?_
    refine ty_ki (wr := [(rf_RW ct 0 ma 958 fa)]) (wc := ([(rf_MO mo mw ma mf m0 m1 mu mv u0 u1 iz th1_4 mb mn mpt mbg mwr mwk mlf men), (rf_RW ct 0 mw 958 f)] ++ ws_3)) (va_runV (As := [.int p1, .int 1]) (rest := []) ⟨hx, hb, hml, hown, hts⟩ (m_X11_isIn l D ct S ws_3 ph xx mo mw ma mf m0 m1 mu mv u0 u1 iz mb th1_4 mn mpt mbg mwr mwk mlf men f G (-1) p1 (1 : Int32) _ hT h_mu h_mv h_u0 h_u1 hph hy1 hR hz_6) (cm_V 2 hts kc_X11_isIn ki_RX11 kl_RX11_350 kv_X11_isIn kx_X11_isIn kd_X11_isIn ⟨Nat.le_of_ble_eq_true rfl, Nat.le_of_ble_eq_true rfl⟩) (ty_preE (wr := [(rf_RW ct 0 ma 958 fa)]) (wc := ([(rf_MO mo mw ma mf m0 m1 mu mv u0 u1 iz th1_4 mb mn mpt mbg mwr mwk mlf men), (rf_RW ct 0 mw 958 f)] ++ ws_3)) (ci := 11) (q0 := 1) hP hK hD hS hA hX rfl rfl) rfl rfl hl.1 rfl (lv_room (Nat.le_of_ble_eq_true rfl)) dX11_settledIn_13 ⟨Nat.le_of_ble_eq_true rfl, Nat.le_of_ble_eq_true rfl⟩) hP hD hS hA (fun r_7 u H locs hw_8 hP hD hS => ?_)
    obtain ⟨ws_9, rfl⟩ : ∃ z, z = u := ⟨_, rfl⟩
    obtain ⟨hT, hp_10⟩ := hw_8
    have hp_10 : ((r_7 = 0 ∧ ¬ rf_of f p1 0 = (1 : Int32)) ∨ (r_7 = 1 ∧ rf_of f p1 0 = (1 : Int32))) := hp_10
    have hP : va_P D vwCl ([(rf_RW ct 0 ma 958 fa), (rf_MO mo mw ma mf m0 m1 mu mv u0 u1 iz th1_4 mb mn mpt mbg mwr mwk mlf men), (rf_RW ct 0 mw 958 f)] ++ ws_9) H := hP
    have hD : va_D A ([(rf_RW ct 0 ma 958 fa), (rf_MO mo mw ma mf m0 m1 mu mv u0 u1 iz th1_4 mb mn mpt mbg mwr mwk mlf men), (rf_RW ct 0 mw 958 f)] ++ ws_9) := hD
    rcases hp_10 with ⟨rfl, hz_11⟩ | ⟨rfl, hz_12⟩
    · refine lv_if_eq (tgt := 21) hx hb dX11_settledIn_16 (by decide) (fun _ => ?_) (fun hc => absurd (by decide) hc)
      refine lv_aload_n hx hb dX11_settledIn_21 rfl (lv_at hl 0 rfl) ?_
      have hP : va_P D vwCl ([(rf_MO mo mw ma mf m0 m1 mu mv u0 u1 iz th1_4 mb mn mpt mbg mwr mwk mlf men), (rf_RW ct 0 mw 958 f), (rf_RW ct 0 ma 958 fa)] ++ ws_9) H := ty_permP hP (ty_ordp (E := [(rf_RW ct 0 ma 958 fa), (rf_MO mo mw ma mf m0 m1 mu mv u0 u1 iz th1_4 mb mn mpt mbg mwr mwk mlf men), (rf_RW ct 0 mw 958 f)]) (E2 := [(rf_MO mo mw ma mf m0 m1 mu mv u0 u1 iz th1_4 mb mn mpt mbg mwr mwk mlf men), (rf_RW ct 0 mw 958 f), (rf_RW ct 0 ma 958 fa)]) (n := 3) [1, 2, 0] rfl rfl (by decide))
      have hD : va_D A ([(rf_MO mo mw ma mf m0 m1 mu mv u0 u1 iz th1_4 mb mn mpt mbg mwr mwk mlf men), (rf_RW ct 0 mw 958 f), (rf_RW ct 0 ma 958 fa)] ++ ws_9) := ty_permD hD (ty_ordp (E := [(rf_RW ct 0 ma 958 fa), (rf_MO mo mw ma mf m0 m1 mu mv u0 u1 iz th1_4 mb mn mpt mbg mwr mwk mlf men), (rf_RW ct 0 mw 958 f)]) (E2 := [(rf_MO mo mw ma mf m0 m1 mu mv u0 u1 iz th1_4 mb mn mpt mbg mwr mwk mlf men), (rf_RW ct 0 mw 958 f), (rf_RW ct 0 ma 958 fa)]) (n := 3) [1, 2, 0] rfl rfl (by decide))
      refine ty_kv (wr := []) (wc := ([(rf_MO mo mw ma mf m0 m1 mu mv u0 u1 iz th1_4 mb mn mpt mbg mwr mwk mlf men), (rf_RW ct 0 mw 958 f), (rf_RW ct 0 ma 958 fa)] ++ ws_9)) (va_runV (As := []) (rest := []) ⟨hx, hb, hml, hown, hts⟩ (m_X11_goesAside l D ct S ws_9 ph xx mo mw ma mf m0 m1 mu mv u0 u1 iz mb th1_4 mn mpt mbg mwr mwk mlf men f G fa _ hT h_mu h_mv h_u0 h_u1 hph hy1 hy11 hR) (cm_V 0 hts kc_X11_goesAside ki_RX11 kl_RX11_379 kv_X11_goesAside kx_X11_goesAside kd_X11_goesAside ⟨Nat.le_of_ble_eq_true rfl, Nat.le_of_ble_eq_true rfl⟩) (ty_preE (wr := []) (wc := ([(rf_MO mo mw ma mf m0 m1 mu mv u0 u1 iz th1_4 mb mn mpt mbg mwr mwk mlf men), (rf_RW ct 0 mw 958 f), (rf_RW ct 0 ma 958 fa)] ++ ws_9)) (ci := 11) (q0 := 0) hP hK hD hS hA hX rfl rfl) rfl rfl hl.1 rfl (lv_room (Nat.le_of_ble_eq_true rfl)) dX11_settledIn_22 ⟨Nat.le_of_ble_eq_true rfl, Nat.le_of_ble_eq_true rfl⟩) hP hD hS hA (fun u H locs hw_14 hP hD hS => ?_)
      obtain ⟨ws_15, fa1_16⟩ := u
      obtain ⟨hT, hp_17⟩ := hw_14
      have hp_17 : rf_R G (-1) fa1_16 ∧ fa1_16 8 = f 8 := hp_17
      have hP : va_P D vwCl ([(rf_MO mo mw ma mf m0 m1 mu mv u0 u1 iz th1_4 mb mn mpt mbg mwr mwk mlf (0)), (rf_RW ct 0 mw 958 f), (rf_RW ct 0 ma 958 fa1_16)] ++ ws_15) H := hP
      have hD : va_D A ([(rf_MO mo mw ma mf m0 m1 mu mv u0 u1 iz th1_4 mb mn mpt mbg mwr mwk mlf (0)), (rf_RW ct 0 mw 958 f), (rf_RW ct 0 ma 958 fa1_16)] ++ ws_15) := hD
      refine lv_iconst (v := 0) hx hb dX11_settledIn_25 (by decide) ?_
      refine lv_istore_n (lv' := [(2, .int 0), (0, .ref mo), (1, .int p1)]) hx hb dX11_settledIn_26 rfl hl (by decide) rfl (fun ls hl => ?_)
      refine ty_loop (I := fun μ H locs ls => ∃ (ws : va_W) (y_18 : Int32) (y_19 : Int32) (f_20 : Nat → Int32), μ = (2147483648 - y_18.toInt).toNat ∧ ty_V ct S ph ws ∧ va_P D vwCl ([(rf_MO mo mw ma mf m0 m1 mu mv u0 u1 iz th1_4 mb mn mpt mbg mwr mwk mlf y_19), (rf_RW ct 0 mw 958 f_20), (rf_RW ct 0 ma 958 fa1_16)] ++ ws) H ∧ va_D A ([(rf_MO mo mw ma mf m0 m1 mu mv u0 u1 iz th1_4 mb mn mpt mbg mwr mwk mlf y_19), (rf_RW ct 0 mw 958 f_20), (rf_RW ct 0 ma 958 fa1_16)] ++ ws) ∧ va_S A s.heap H locs ∧ lv_has ls 3 [(0, .ref mo), (1, .int p1), (2, .int y_18)] ∧ rf_R G (-1) f_20) ⟨_, ws_15, (0 : Int32), (0 : Int32), f, rfl, hT, hP, hD, hS, (lv_sub hl [1, 2, 0] rfl), hR⟩ (fun μ H locs ls hI ih_27 => ?_)
      obtain ⟨ws, y_18, y_19, f_20, rfl, hT, hP, hD, hS, hl, hR_27⟩ := hI
      refine lv_aload_n hx hb dX11_settledIn_27 rfl (lv_at hl 0 rfl) ?_
      refine lv_iload_n hx hb dX11_settledIn_28 rfl (lv_at hl 1 rfl) ?_
      refine lv_bipush (v := 8) hx hb dX11_settledIn_29 (by decide) ?_
      have hP : va_P D vwCl ([(rf_RW ct 0 ma 958 fa1_16), (rf_MO mo mw ma mf m0 m1 mu mv u0 u1 iz th1_4 mb mn mpt mbg mwr mwk mlf y_19), (rf_RW ct 0 mw 958 f_20)] ++ ws) H := ty_permP hP (ty_ordp (E := [(rf_MO mo mw ma mf m0 m1 mu mv u0 u1 iz th1_4 mb mn mpt mbg mwr mwk mlf y_19), (rf_RW ct 0 mw 958 f_20), (rf_RW ct 0 ma 958 fa1_16)]) (E2 := [(rf_RW ct 0 ma 958 fa1_16), (rf_MO mo mw ma mf m0 m1 mu mv u0 u1 iz th1_4 mb mn mpt mbg mwr mwk mlf y_19), (rf_RW ct 0 mw 958 f_20)]) (n := 3) [2, 0, 1] rfl rfl (by decide))
      have hD : va_D A ([(rf_RW ct 0 ma 958 fa1_16), (rf_MO mo mw ma mf m0 m1 mu mv u0 u1 iz th1_4 mb mn mpt mbg mwr mwk mlf y_19), (rf_RW ct 0 mw 958 f_20)] ++ ws) := ty_permD hD (ty_ordp (E := [(rf_MO mo mw ma mf m0 m1 mu mv u0 u1 iz th1_4 mb mn mpt mbg mwr mwk mlf y_19), (rf_RW ct 0 mw 958 f_20), (rf_RW ct 0 ma 958 fa1_16)]) (E2 := [(rf_RW ct 0 ma 958 fa1_16), (rf_MO mo mw ma mf m0 m1 mu mv u0 u1 iz th1_4 mb mn mpt mbg mwr mwk mlf y_19), (rf_RW ct 0 mw 958 f_20)]) (n := 3) [2, 0, 1] rfl rfl (by decide))
      refine ty_ki (wr := [(rf_RW ct 0 ma 958 fa1_16)]) (wc := ([(rf_MO mo mw ma mf m0 m1 mu mv u0 u1 iz th1_4 mb mn mpt mbg mwr mwk mlf y_19), (rf_RW ct 0 mw 958 f_20)] ++ ws)) (va_runV (As := [.int p1, .int 8]) (rest := []) ⟨hx, hb, hml, hown, hts⟩ (m_of_8 l D ct S ws ph xx mo mw ma mf m0 m1 mu mv u0 u1 iz mb th1_4 mn mpt mbg mwr mwk mlf y_19 f_20 G (-1) p1 _ hT h_mu h_mv h_u0 h_u1 hph hy1 hR_27 hz_6) (cm_V 2 hts kc_X11_of ki_RX11 kl_RX11_209 kv_X11_of kx_X11_of kd_X11_of ⟨Nat.le_of_ble_eq_true rfl, Nat.le_of_ble_eq_true rfl⟩) (ty_preE (wr := [(rf_RW ct 0 ma 958 fa1_16)]) (wc := ([(rf_MO mo mw ma mf m0 m1 mu mv u0 u1 iz th1_4 mb mn mpt mbg mwr mwk mlf y_19), (rf_RW ct 0 mw 958 f_20)] ++ ws)) (ci := 11) (q0 := 1) hP hK hD hS hA hX rfl rfl) rfl rfl hl.1 rfl (lv_room (Nat.le_of_ble_eq_true rfl)) dX11_settledIn_31 ⟨Nat.le_of_ble_eq_true rfl, Nat.le_of_ble_eq_true rfl⟩) hP hD hS hA (fun r_21 u H locs hw_22 hP hD hS => ?_)
      obtain ⟨ws_23, rfl⟩ : ∃ z, z = u := ⟨_, rfl⟩
      obtain ⟨hT, rfl⟩ := hw_22
      have hP : va_P D vwCl ([(rf_RW ct 0 ma 958 fa1_16), (rf_MO mo mw ma mf m0 m1 mu mv u0 u1 iz th1_4 mb mn mpt mbg mwr mwk mlf y_19), (rf_RW ct 0 mw 958 f_20)] ++ ws_23) H := hP
      have hD : va_D A ([(rf_RW ct 0 ma 958 fa1_16), (rf_MO mo mw ma mf m0 m1 mu mv u0 u1 iz th1_4 mb mn mpt mbg mwr mwk mlf y_19), (rf_RW ct 0 mw 958 f_20)] ++ ws_23) := hD
      refine lv_if_eq (tgt := 55) hx hb dX11_settledIn_34 (by decide) (fun hc_24 => ?_) (fun hc_24 => ?_)
      · refine lv_aload_n hx hb dX11_settledIn_55 rfl (lv_at hl 0 rfl) ?_
        have hP : va_P D vwCl ([(rf_MO mo mw ma mf m0 m1 mu mv u0 u1 iz th1_4 mb mn mpt mbg mwr mwk mlf y_19), (rf_RW ct 0 mw 958 f_20), (rf_RW ct 0 ma 958 fa1_16)] ++ ws_23) H := ty_permP hP (ty_ordp (E := [(rf_RW ct 0 ma 958 fa1_16), (rf_MO mo mw ma mf m0 m1 mu mv u0 u1 iz th1_4 mb mn mpt mbg mwr mwk mlf y_19), (rf_RW ct 0 mw 958 f_20)]) (E2 := [(rf_MO mo mw ma mf m0 m1 mu mv u0 u1 iz th1_4 mb mn mpt mbg mwr mwk mlf y_19), (rf_RW ct 0 mw 958 f_20), (rf_RW ct 0 ma 958 fa1_16)]) (n := 3) [1, 2, 0] rfl rfl (by decide))
        have hD : va_D A ([(rf_MO mo mw ma mf m0 m1 mu mv u0 u1 iz th1_4 mb mn mpt mbg mwr mwk mlf y_19), (rf_RW ct 0 mw 958 f_20), (rf_RW ct 0 ma 958 fa1_16)] ++ ws_23) := ty_permD hD (ty_ordp (E := [(rf_RW ct 0 ma 958 fa1_16), (rf_MO mo mw ma mf m0 m1 mu mv u0 u1 iz th1_4 mb mn mpt mbg mwr mwk mlf y_19), (rf_RW ct 0 mw 958 f_20)]) (E2 := [(rf_MO mo mw ma mf m0 m1 mu mv u0 u1 iz th1_4 mb mn mpt mbg mwr mwk mlf y_19), (rf_RW ct 0 mw 958 f_20), (rf_RW ct 0 ma 958 fa1_16)]) (n := 3) [1, 2, 0] rfl rfl (by decide))
        refine ty_kv (wr := []) (wc := ([(rf_MO mo mw ma mf m0 m1 mu mv u0 u1 iz th1_4 mb mn mpt mbg mwr mwk mlf y_19), (rf_RW ct 0 mw 958 f_20), (rf_RW ct 0 ma 958 fa1_16)] ++ ws_23)) (va_runV (As := []) (rest := []) ⟨hx, hb, hml, hown, hts⟩ (m_X11_comesBack l D ct S ws_23 ph xx mo mw ma mf m0 m1 mu mv u0 u1 iz mb th1_4 mn mpt mbg mwr mwk mlf y_19 f_20 G fa1_16 _ hT h_mu h_mv h_u0 h_u1 hph hy1 hy11 hp_17.1) (cm_V 0 hts kc_X11_comesBack ki_RX11 kl_RX11_385 kv_X11_comesBack kx_X11_comesBack kd_X11_comesBack ⟨Nat.le_of_ble_eq_true rfl, Nat.le_of_ble_eq_true rfl⟩) (ty_preE (wr := []) (wc := ([(rf_MO mo mw ma mf m0 m1 mu mv u0 u1 iz th1_4 mb mn mpt mbg mwr mwk mlf y_19), (rf_RW ct 0 mw 958 f_20), (rf_RW ct 0 ma 958 fa1_16)] ++ ws_23)) (ci := 11) (q0 := 0) hP hK hD hS hA hX rfl rfl) rfl rfl hl.1 rfl (lv_room (Nat.le_of_ble_eq_true rfl)) dX11_settledIn_56 ⟨Nat.le_of_ble_eq_true rfl, Nat.le_of_ble_eq_true rfl⟩) hP hD hS hA (fun u H locs hw_26 hP hD hS => ?_)
        obtain ⟨ws_27, f1_28⟩ := u
        obtain ⟨hT, hp_29⟩ := hw_26
        have hp_29 : rf_R G (-1) f1_28 ∧ f1_28 8 = fa1_16 8 := hp_29
        have hR_30 := hp_29.1
        have hP : va_P D vwCl ([(rf_MO mo mw ma mf m0 m1 mu mv u0 u1 iz th1_4 mb mn mpt mbg mwr mwk mlf y_19), (rf_RW ct 0 mw 958 f1_28), (rf_RW ct 0 ma 958 fa1_16)] ++ ws_27) H := hP
        have hD : va_D A ([(rf_MO mo mw ma mf m0 m1 mu mv u0 u1 iz th1_4 mb mn mpt mbg mwr mwk mlf y_19), (rf_RW ct 0 mw 958 f1_28), (rf_RW ct 0 ma 958 fa1_16)] ++ ws_27) := hD
        have hD_32 := rf_dg (rf_dr f) hp_17.2 hp_29.2
        refine lv_iload_n hx hb dX11_settledIn_59 rfl (lv_at hl 2 rfl) ?_
        refine lv_sipush (v := 10000) hx hb dX11_settledIn_60 (by decide) ?_
        refine lv_icmp_le (tgt := 70) hx hb dX11_settledIn_63 (by decide) (fun hc_33 => ?_) (fun hc_33 => ?_)
        · refine lv_iload_n hx hb dX11_settledIn_70 rfl (lv_at hl 2 rfl) ?_
          exact W.iret (v := y_18) hx hb hr (fun t ht hW => ⟨⟨y_18, (ws_27, y_19, th1_4, f1_28, fa1_16), rfl, ⟨hT, ⟨hD_32, hR_30⟩⟩, by rw [ht]; exact hP, by rw [hAe]; exact hD⟩, hS.F ht⟩) hS.2.2 dX11_settledIn_71
        · refine lv_iconst (v := (-1)) hx hb dX11_settledIn_66 (by decide) ?_
          refine lv_goto (tgt := 71) hx hb dX11_settledIn_67 (by decide) ?_
          exact W.iret (v := (-1)) hx hb hr (fun t ht hW => ⟨⟨(-1), (ws_27, y_19, th1_4, f1_28, fa1_16), rfl, ⟨hT, ⟨hD_32, hR_30⟩⟩, by rw [ht]; exact hP, by rw [hAe]; exact hD⟩, hS.F ht⟩) hS.2.2 dX11_settledIn_71
      · refine lv_iload_n hx hb dX11_settledIn_37 rfl (lv_at hl 2 rfl) ?_
        refine lv_sipush (v := 10000) hx hb dX11_settledIn_38 (by decide) ?_
        refine lv_icmp_gt (tgt := 55) hx hb dX11_settledIn_41 (by decide) (fun hc_34 => ?_) (fun hc_34 => ?_)
        · refine lv_aload_n hx hb dX11_settledIn_55 rfl (lv_at hl 0 rfl) ?_
          have hP : va_P D vwCl ([(rf_MO mo mw ma mf m0 m1 mu mv u0 u1 iz th1_4 mb mn mpt mbg mwr mwk mlf y_19), (rf_RW ct 0 mw 958 f_20), (rf_RW ct 0 ma 958 fa1_16)] ++ ws_23) H := ty_permP hP (ty_ordp (E := [(rf_RW ct 0 ma 958 fa1_16), (rf_MO mo mw ma mf m0 m1 mu mv u0 u1 iz th1_4 mb mn mpt mbg mwr mwk mlf y_19), (rf_RW ct 0 mw 958 f_20)]) (E2 := [(rf_MO mo mw ma mf m0 m1 mu mv u0 u1 iz th1_4 mb mn mpt mbg mwr mwk mlf y_19), (rf_RW ct 0 mw 958 f_20), (rf_RW ct 0 ma 958 fa1_16)]) (n := 3) [1, 2, 0] rfl rfl (by decide))
          have hD : va_D A ([(rf_MO mo mw ma mf m0 m1 mu mv u0 u1 iz th1_4 mb mn mpt mbg mwr mwk mlf y_19), (rf_RW ct 0 mw 958 f_20), (rf_RW ct 0 ma 958 fa1_16)] ++ ws_23) := ty_permD hD (ty_ordp (E := [(rf_RW ct 0 ma 958 fa1_16), (rf_MO mo mw ma mf m0 m1 mu mv u0 u1 iz th1_4 mb mn mpt mbg mwr mwk mlf y_19), (rf_RW ct 0 mw 958 f_20)]) (E2 := [(rf_MO mo mw ma mf m0 m1 mu mv u0 u1 iz th1_4 mb mn mpt mbg mwr mwk mlf y_19), (rf_RW ct 0 mw 958 f_20), (rf_RW ct 0 ma 958 fa1_16)]) (n := 3) [1, 2, 0] rfl rfl (by decide))
          refine ty_kv (wr := []) (wc := ([(rf_MO mo mw ma mf m0 m1 mu mv u0 u1 iz th1_4 mb mn mpt mbg mwr mwk mlf y_19), (rf_RW ct 0 mw 958 f_20), (rf_RW ct 0 ma 958 fa1_16)] ++ ws_23)) (va_runV (As := []) (rest := []) ⟨hx, hb, hml, hown, hts⟩ (m_X11_comesBack l D ct S ws_23 ph xx mo mw ma mf m0 m1 mu mv u0 u1 iz mb th1_4 mn mpt mbg mwr mwk mlf y_19 f_20 G fa1_16 _ hT h_mu h_mv h_u0 h_u1 hph hy1 hy11 hp_17.1) (cm_V 0 hts kc_X11_comesBack ki_RX11 kl_RX11_385 kv_X11_comesBack kx_X11_comesBack kd_X11_comesBack ⟨Nat.le_of_ble_eq_true rfl, Nat.le_of_ble_eq_true rfl⟩) (ty_preE (wr := []) (wc := ([(rf_MO mo mw ma mf m0 m1 mu mv u0 u1 iz th1_4 mb mn mpt mbg mwr mwk mlf y_19), (rf_RW ct 0 mw 958 f_20), (rf_RW ct 0 ma 958 fa1_16)] ++ ws_23)) (ci := 11) (q0 := 0) hP hK hD hS hA hX rfl rfl) rfl rfl hl.1 rfl (lv_room (Nat.le_of_ble_eq_true rfl)) dX11_settledIn_56 ⟨Nat.le_of_ble_eq_true rfl, Nat.le_of_ble_eq_true rfl⟩) hP hD hS hA (fun u H locs hw_36 hP hD hS => ?_)
          obtain ⟨ws_37, f1_38⟩ := u
          obtain ⟨hT, hp_39⟩ := hw_36
          have hp_39 : rf_R G (-1) f1_38 ∧ f1_38 8 = fa1_16 8 := hp_39
          have hR_40 := hp_39.1
          have hP : va_P D vwCl ([(rf_MO mo mw ma mf m0 m1 mu mv u0 u1 iz th1_4 mb mn mpt mbg mwr mwk mlf y_19), (rf_RW ct 0 mw 958 f1_38), (rf_RW ct 0 ma 958 fa1_16)] ++ ws_37) H := hP
          have hD : va_D A ([(rf_MO mo mw ma mf m0 m1 mu mv u0 u1 iz th1_4 mb mn mpt mbg mwr mwk mlf y_19), (rf_RW ct 0 mw 958 f1_38), (rf_RW ct 0 ma 958 fa1_16)] ++ ws_37) := hD
          have hD_42 := rf_dg (rf_dr f) hp_17.2 hp_39.2
          refine lv_iload_n hx hb dX11_settledIn_59 rfl (lv_at hl 2 rfl) ?_
          refine lv_sipush (v := 10000) hx hb dX11_settledIn_60 (by decide) ?_
          refine lv_icmp_le (tgt := 70) hx hb dX11_settledIn_63 (by decide) (fun hc_43 => ?_) (fun hc_43 => ?_)
          · refine lv_iload_n hx hb dX11_settledIn_70 rfl (lv_at hl 2 rfl) ?_
            exact W.iret (v := y_18) hx hb hr (fun t ht hW => ⟨⟨y_18, (ws_37, y_19, th1_4, f1_38, fa1_16), rfl, ⟨hT, ⟨hD_42, hR_40⟩⟩, by rw [ht]; exact hP, by rw [hAe]; exact hD⟩, hS.F ht⟩) hS.2.2 dX11_settledIn_71
          · refine lv_iconst (v := (-1)) hx hb dX11_settledIn_66 (by decide) ?_
            refine lv_goto (tgt := 71) hx hb dX11_settledIn_67 (by decide) ?_
            exact W.iret (v := (-1)) hx hb hr (fun t ht hW => ⟨⟨(-1), (ws_37, y_19, th1_4, f1_38, fa1_16), rfl, ⟨hT, ⟨hD_42, hR_40⟩⟩, by rw [ht]; exact hP, by rw [hAe]; exact hD⟩, hS.F ht⟩) hS.2.2 dX11_settledIn_71
        · refine lv_aload_n hx hb dX11_settledIn_44 rfl (lv_at hl 0 rfl) ?_
          refine lv_iload_n hx hb dX11_settledIn_45 rfl (lv_at hl 1 rfl) ?_
          refine ty_kv (wr := [(rf_RW ct 0 ma 958 fa1_16)]) (wc := ([(rf_MO mo mw ma mf m0 m1 mu mv u0 u1 iz th1_4 mb mn mpt mbg mwr mwk mlf y_19), (rf_RW ct 0 mw 958 f_20)] ++ ws_23)) (va_runV (As := [.int p1]) (rest := []) ⟨hx, hb, hml, hown, hts⟩ (m_X11_alone l D ct S ws_23 ph xx mo mw ma mf m0 m1 mu mv u0 u1 iz mb th1_4 mn mpt mbg mwr mwk mlf y_19 f_20 G p1 _ hT h_mu h_mv h_u0 h_u1 hph hy1 hy11 hR_27 hz_6) (cm_V 1 hts kc_X11_alone ki_RX11 kl_RX11_382 kv_X11_alone kx_X11_alone kd_X11_alone ⟨Nat.le_of_ble_eq_true rfl, Nat.le_of_ble_eq_true rfl⟩) (ty_preE (wr := [(rf_RW ct 0 ma 958 fa1_16)]) (wc := ([(rf_MO mo mw ma mf m0 m1 mu mv u0 u1 iz th1_4 mb mn mpt mbg mwr mwk mlf y_19), (rf_RW ct 0 mw 958 f_20)] ++ ws_23)) (ci := 11) (q0 := 1) hP hK hD hS hA hX rfl rfl) rfl rfl hl.1 rfl (lv_room (Nat.le_of_ble_eq_true rfl)) dX11_settledIn_46 ⟨Nat.le_of_ble_eq_true rfl, Nat.le_of_ble_eq_true rfl⟩) hP hD hS hA (fun u H locs hw_45 hP hD hS => ?_)
          obtain ⟨ws_46, men1_47, f1_48⟩ := u
          obtain ⟨hT, hp_49⟩ := hw_45
          have hp_49 : rf_d ((f_20 8) + 1) f_20 f1_48 ∧ rf_R G (-1) f1_48 := hp_49
          obtain ⟨hd_50, hq_51⟩ := hp_49
          have hR_52 := hq_51
          have hP : va_P D vwCl ([(rf_RW ct 0 ma 958 fa1_16), (rf_MO mo mw ma mf m0 m1 mu mv u0 u1 iz th1_4 mb mn mpt mbg mwr mwk mlf men1_47), (rf_RW ct 0 mw 958 f1_48)] ++ ws_46) H := hP
          have hD : va_D A ([(rf_RW ct 0 ma 958 fa1_16), (rf_MO mo mw ma mf m0 m1 mu mv u0 u1 iz th1_4 mb mn mpt mbg mwr mwk mlf men1_47), (rf_RW ct 0 mw 958 f1_48)] ++ ws_46) := hD
          refine lv_iinc (v := (y_18 + Int32.ofInt 1)) (lv' := [(2, .int (y_18 + Int32.ofInt 1)), (0, .ref mo), (1, .int p1)]) hx hb dX11_settledIn_49 hl (k := 2) rfl rfl (by decide) rfl (fun ls hl => ?_)
          refine lv_goto (tgt := 27) hx hb dX11_settledIn_52 (by decide) ?_
          have hP : va_P D vwCl ([(rf_MO mo mw ma mf m0 m1 mu mv u0 u1 iz th1_4 mb mn mpt mbg mwr mwk mlf men1_47), (rf_RW ct 0 mw 958 f1_48), (rf_RW ct 0 ma 958 fa1_16)] ++ ws_46) H := ty_permP hP (ty_ordp (E := [(rf_RW ct 0 ma 958 fa1_16), (rf_MO mo mw ma mf m0 m1 mu mv u0 u1 iz th1_4 mb mn mpt mbg mwr mwk mlf men1_47), (rf_RW ct 0 mw 958 f1_48)]) (E2 := [(rf_MO mo mw ma mf m0 m1 mu mv u0 u1 iz th1_4 mb mn mpt mbg mwr mwk mlf men1_47), (rf_RW ct 0 mw 958 f1_48), (rf_RW ct 0 ma 958 fa1_16)]) (n := 3) [1, 2, 0] rfl rfl (by decide))
          have hD : va_D A ([(rf_MO mo mw ma mf m0 m1 mu mv u0 u1 iz th1_4 mb mn mpt mbg mwr mwk mlf men1_47), (rf_RW ct 0 mw 958 f1_48), (rf_RW ct 0 ma 958 fa1_16)] ++ ws_46) := ty_permD hD (ty_ordp (E := [(rf_RW ct 0 ma 958 fa1_16), (rf_MO mo mw ma mf m0 m1 mu mv u0 u1 iz th1_4 mb mn mpt mbg mwr mwk mlf men1_47), (rf_RW ct 0 mw 958 f1_48)]) (E2 := [(rf_MO mo mw ma mf m0 m1 mu mv u0 u1 iz th1_4 mb mn mpt mbg mwr mwk mlf men1_47), (rf_RW ct 0 mw 958 f1_48), (rf_RW ct 0 ma 958 fa1_16)]) (n := 3) [1, 2, 0] rfl rfl (by decide))
          exact ih_27 _ _ _ _ (ty_incle hc_34 (by decide)) ⟨ws_46, (y_18 + Int32.ofInt 1), men1_47, f1_48, rfl, hT, hP, hD, hS, (lv_sub hl [1, 2, 0] rfl), hR_52⟩
    · refine lv_if_eq (tgt := 21) hx hb dX11_settledIn_16 (by decide) (fun hc => absurd hc (by decide)) (fun _ => ?_)
      refine lv_iconst (v := (-1)) hx hb dX11_settledIn_19 (by decide) ?_
      have hP : va_P D vwCl ([(rf_MO mo mw ma mf m0 m1 mu mv u0 u1 iz th1_4 mb mn mpt mbg mwr mwk mlf men), (rf_RW ct 0 mw 958 f), (rf_RW ct 0 ma 958 fa)] ++ ws_9) H := ty_permP hP (ty_ordp (E := [(rf_RW ct 0 ma 958 fa), (rf_MO mo mw ma mf m0 m1 mu mv u0 u1 iz th1_4 mb mn mpt mbg mwr mwk mlf men), (rf_RW ct 0 mw 958 f)]) (E2 := [(rf_MO mo mw ma mf m0 m1 mu mv u0 u1 iz th1_4 mb mn mpt mbg mwr mwk mlf men), (rf_RW ct 0 mw 958 f), (rf_RW ct 0 ma 958 fa)]) (n := 3) [1, 2, 0] rfl rfl (by decide))
      have hD : va_D A ([(rf_MO mo mw ma mf m0 m1 mu mv u0 u1 iz th1_4 mb mn mpt mbg mwr mwk mlf men), (rf_RW ct 0 mw 958 f), (rf_RW ct 0 ma 958 fa)] ++ ws_9) := ty_permD hD (ty_ordp (E := [(rf_RW ct 0 ma 958 fa), (rf_MO mo mw ma mf m0 m1 mu mv u0 u1 iz th1_4 mb mn mpt mbg mwr mwk mlf men), (rf_RW ct 0 mw 958 f)]) (E2 := [(rf_MO mo mw ma mf m0 m1 mu mv u0 u1 iz th1_4 mb mn mpt mbg mwr mwk mlf men), (rf_RW ct 0 mw 958 f), (rf_RW ct 0 ma 958 fa)]) (n := 3) [1, 2, 0] rfl rfl (by decide))
      exact W.iret (v := (-1)) hx hb hr (fun t ht hW => ⟨⟨(-1), (ws_9, men, th1_4, f, fa), rfl, ⟨hT, ⟨(rf_dr f), hR⟩⟩, by rw [ht]; exact hP, by rw [hAe]; exact hD⟩, hS.F ht⟩) hS.2.2 dX11_settledIn_20
  · refine lv_if_eq (tgt := 10) hx hb dX11_settledIn_5 (by decide) (fun hc => absurd hc (by decide)) (fun _ => ?_)
    refine lv_iconst (v := 0) hx hb dX11_settledIn_8 (by decide) ?_
    have hP : va_P D vwCl ([(rf_MO mo mw ma mf m0 m1 mu mv u0 u1 iz th1_4 mb mn mpt mbg mwr mwk mlf men), (rf_RW ct 0 mw 958 f), (rf_RW ct 0 ma 958 fa)] ++ ws_3) H := ty_permP hP (ty_ordp (E := [(rf_RW ct 0 ma 958 fa), (rf_MO mo mw ma mf m0 m1 mu mv u0 u1 iz th1_4 mb mn mpt mbg mwr mwk mlf men), (rf_RW ct 0 mw 958 f)]) (E2 := [(rf_MO mo mw ma mf m0 m1 mu mv u0 u1 iz th1_4 mb mn mpt mbg mwr mwk mlf men), (rf_RW ct 0 mw 958 f), (rf_RW ct 0 ma 958 fa)]) (n := 3) [1, 2, 0] rfl rfl (by decide))
    have hD : va_D A ([(rf_MO mo mw ma mf m0 m1 mu mv u0 u1 iz th1_4 mb mn mpt mbg mwr mwk mlf men), (rf_RW ct 0 mw 958 f), (rf_RW ct 0 ma 958 fa)] ++ ws_3) := ty_permD hD (ty_ordp (E := [(rf_RW ct 0 ma 958 fa), (rf_MO mo mw ma mf m0 m1 mu mv u0 u1 iz th1_4 mb mn mpt mbg mwr mwk mlf men), (rf_RW ct 0 mw 958 f)]) (E2 := [(rf_MO mo mw ma mf m0 m1 mu mv u0 u1 iz th1_4 mb mn mpt mbg mwr mwk mlf men), (rf_RW ct 0 mw 958 f), (rf_RW ct 0 ma 958 fa)]) (n := 3) [1, 2, 0] rfl rfl (by decide))
    exact W.iret (v := 0) hx hb hr (fun t ht hW => ⟨⟨0, (ws_3, men, th1_4, f, fa), rfl, ⟨hT, ⟨(rf_dr f), hR⟩⟩, by rw [ht]; exact hP, by rw [hAe]; exact hD⟩, hS.F ht⟩) hS.2.2 dX11_settledIn_9
theorem rf_z39 {G : Nat → Int32} {c : Nat} : rf_k G c 39 0 := fun _ => ⟨by decide, by decide, fun _ => by decide⟩
theorem dX11_durationOf_0 : decode cX11_durationOf 0 = .ok (.aload_n 0, 1) := by decide +kernel
theorem dX11_durationOf_1 : decode cX11_durationOf 1 = .ok (.invokevirtual 379, 3) := by decide +kernel
theorem dX11_durationOf_4 : decode cX11_durationOf 4 = .ok (.aload_n 0, 1) := by decide +kernel
theorem dX11_durationOf_5 : decode cX11_durationOf 5 = .ok (.iload_n 1, 1) := by decide +kernel
theorem dX11_durationOf_6 : decode cX11_durationOf 6 = .ok (.bipush 39, 2) := by decide +kernel
theorem dX11_durationOf_8 : decode cX11_durationOf 8 = .ok (.iconst 0, 1) := by decide +kernel
theorem dX11_durationOf_9 : decode cX11_durationOf 9 = .ok (.invokevirtual 234, 3) := by decide +kernel
theorem dX11_durationOf_12 : decode cX11_durationOf 12 = .ok (.aload_n 0, 1) := by decide +kernel
theorem dX11_durationOf_13 : decode cX11_durationOf 13 = .ok (.iload_n 1, 1) := by decide +kernel
theorem dX11_durationOf_14 : decode cX11_durationOf 14 = .ok (.iload_n 2, 1) := by decide +kernel
theorem dX11_durationOf_15 : decode cX11_durationOf 15 = .ok (.invokevirtual 288, 3) := by decide +kernel
theorem dX11_durationOf_18 : decode cX11_durationOf 18 = .ok (.aload_n 0, 1) := by decide +kernel
theorem dX11_durationOf_19 : decode cX11_durationOf 19 = .ok (.iload_n 1, 1) := by decide +kernel
theorem dX11_durationOf_20 : decode cX11_durationOf 20 = .ok (.iconst 3, 1) := by decide +kernel
theorem dX11_durationOf_21 : decode cX11_durationOf 21 = .ok (.invokevirtual 388, 3) := by decide +kernel
theorem dX11_durationOf_24 : decode cX11_durationOf 24 = .ok (.istore_n 3, 1) := by decide +kernel
theorem dX11_durationOf_25 : decode cX11_durationOf 25 = .ok (.aload_n 0, 1) := by decide +kernel
theorem dX11_durationOf_26 : decode cX11_durationOf 26 = .ok (.invokevirtual 385, 3) := by decide +kernel
theorem dX11_durationOf_29 : decode cX11_durationOf 29 = .ok (.iload_n 3, 1) := by decide +kernel
theorem dX11_durationOf_30 : decode cX11_durationOf 30 = .ok (.ireturn, 1) := by decide +kernel
set_option maxRecDepth 100000 in
set_option maxHeartbeats 4000000 in
theorem m_X11_durationOf (l : Launch) (D : va_G) (ct : Nat → ClassId) (S : ty_S) (ws : va_W) (ph : va_W → Prop) (xx : Nat → Nat → Nat → Prop) (mo : Nat) (mw : Nat) (ma : Nat) (mf : Nat) (m0 : Nat) (m1 : Nat) (mu : Nat) (mv : Nat) (u0 : Nat) (u1 : Nat) (iz : Nat) (mb : Nat) (th : Int32) (mn : Int32) (mpt : Int32) (mbg : Int32) (mwr : Int32) (mwk : Int32) (mlf : Int32) (men : Int32) (f : Nat → Int32) (G : Nat → Int32) (fa : Nat → Int32) (p1 : Int32) (p2 : Int32) (sz : Nat) (hT : ty_V ct S ph ws) (h_mu : S mu = some (.inr (1, 42))) (h_mv : S mv = some (.inr (1, 42))) (h_u0 : S u0 = some (.inr (1, 42))) (h_u1 : S u1 = some (.inr (1, 42))) (hph : ty_C ph xx) (hy1 : ty_y1 xx) (hy11 : ty_y0 xx 11) (hR : rf_R G (-1) f) (hc : 0 ≤ p1.toInt ∧ p1.toInt < (G 9).toInt) (hpr : 0 ≤ p2.toInt ∧ p2.toInt < (G 10).toInt) : Met l yX11_durationOf (ws_ yX11_durationOf cX11_durationOf 4 (some .int)) ({ frames := 9, cells := 0, slots := 0, locals := 209 } : Room) (va_Pc [.ref mo, .int p1, .int p2] (cmP D ct sz ([(rf_MO mo mw ma mf m0 m1 mu mv u0 u1 iz th mb mn mpt mbg mwr mwk mlf men), (rf_RW ct 0 mw 958 f), (rf_RW ct 0 ma 958 fa)] ++ ws))) (va_Qi (fun (r : Int32) (u : va_W × Int32 × (Nat → Int32) × (Nat → Int32)) => match u with | (u9, men1, f1, fa1) => ty_V ct S ph u9 ∧ rf_d (f 8) f f1 ∧ rf_R G (-1) f1) (cmB D ([(rf_MO mo mw ma mf m0 m1 mu mv u0 u1 iz th mb mn mpt mbg mwr mwk mlf men), (rf_RW ct 0 mw 958 f), (rf_RW ct 0 ma 958 fa)] ++ ws) sz (fun (u : va_W × Int32 × (Nat → Int32) × (Nat → Int32)) => match u with | (u9, men1, f1, fa1) => ([(rf_MO mo mw ma mf m0 m1 mu mv u0 u1 iz th mb mn mpt mbg mwr mwk mlf men1), (rf_RW ct 0 mw 958 f1), (rf_RW ct 0 ma 958 fa1)] ++ u9))) (va_A ([(rf_MO mo mw ma mf m0 m1 mu mv u0 u1 iz th mb mn mpt mbg mwr mwk mlf men), (rf_RW ct 0 mw 958 f), (rf_RW ct 0 ma 958 fa)] ++ ws) sz)) 0 0 (va_A ([(rf_MO mo mw ma mf m0 m1 mu mv u0 u1 iz th mb mn mpt mbg mwr mwk mlf men), (rf_RW ct 0 mw 958 f), (rf_RW ct 0 ma 958 fa)] ++ ws) sz) := by
  refine Met.ofW (cc := cX11_durationOf) (maxL := 4) (ret := (some .int)) (by decide) rfl ?_
  intro p e s m args below meth c s₁ B hml hv
  obtain ⟨rfl, hsz, hP, hK, hD0, hX⟩ := hv
  have hx := B.exec
  have hb := B.bytes
  have hr := B.returns
  have hts := ws_all (atoms_spec (ws := ws_ yX11_durationOf cX11_durationOf 4 (some .int)) B.pre)
  have hown : s.vm.findClass RX11 = some m.cls := findClass_of_methodNamed B.named
  have hlocks := B.notSynchronized
  subst hsz
  have hD := hD0.self (sz := s.heap.size)
  generalize hAe : va_A ([(rf_MO mo mw ma mf m0 m1 mu mv u0 u1 iz th mb mn mpt mbg mwr mwk mlf men), (rf_RW ct 0 mw 958 f), (rf_RW ct 0 ma 958 fa)] ++ ws) s.heap.size = A at hD hX ⊢
  have hA : ∀ q : Nat, s.heap.size ≤ q → A q := fun q h => by rw [← hAe]; exact Or.inr h
  have hS : va_S A s.heap s.heap [] := va_S.rf
  have hl := lv_entry ([.ref mo, .int p1, .int p2]) (n := 4) (Nat.le_of_ble_eq_true rfl)
  rw [lg_entry_eq]
  generalize (lg_sl ([.ref mo, .int p1, .int p2]) ++ List.replicate (4 - (lg_sl ([.ref mo, .int p1, .int p2])).length) Slot.unset).toArray = ls at hl ⊢
  have hl : lv_has ls 4 [(0, .ref mo), (1, .int p1), (2, .int p2)] := hl
  refine lv_aload_n hx hb dX11_durationOf_0 rfl (lv_at hl 0 rfl) ?_
  refine ty_kv (wr := []) (wc := ([(rf_MO mo mw ma mf m0 m1 mu mv u0 u1 iz th mb mn mpt mbg mwr mwk mlf men), (rf_RW ct 0 mw 958 f), (rf_RW ct 0 ma 958 fa)] ++ ws)) (va_runV (As := []) (rest := []) ⟨hx, hb, hml, hown, hts⟩ (m_X11_goesAside l D ct S ws ph xx mo mw ma mf m0 m1 mu mv u0 u1 iz mb th mn mpt mbg mwr mwk mlf men f G fa _ hT h_mu h_mv h_u0 h_u1 hph hy1 hy11 hR) (cm_V 0 hts kc_X11_goesAside ki_RX11 kl_RX11_379 kv_X11_goesAside kx_X11_goesAside kd_X11_goesAside ⟨Nat.le_of_ble_eq_true rfl, Nat.le_of_ble_eq_true rfl⟩) (ty_preE (wr := []) (wc := ([(rf_MO mo mw ma mf m0 m1 mu mv u0 u1 iz th mb mn mpt mbg mwr mwk mlf men), (rf_RW ct 0 mw 958 f), (rf_RW ct 0 ma 958 fa)] ++ ws)) (ci := 11) (q0 := 0) hP hK hD hS hA hX rfl rfl) rfl rfl hl.1 rfl (lv_room (Nat.le_of_ble_eq_true rfl)) dX11_durationOf_1 ⟨Nat.le_of_ble_eq_true rfl, Nat.le_of_ble_eq_true rfl⟩) hP hD hS hA (fun u H locs hw_2 hP hD hS => ?_)
  obtain ⟨ws_3, fa1_4⟩ := u
  obtain ⟨hT, hp_5⟩ := hw_2
  have hp_5 : rf_R G (-1) fa1_4 ∧ fa1_4 8 = f 8 := hp_5
  have hP : va_P D vwCl ([(rf_MO mo mw ma mf m0 m1 mu mv u0 u1 iz th mb mn mpt mbg mwr mwk mlf (0)), (rf_RW ct 0 mw 958 f), (rf_RW ct 0 ma 958 fa1_4)] ++ ws_3) H := hP
  have hD : va_D A ([(rf_MO mo mw ma mf m0 m1 mu mv u0 u1 iz th mb mn mpt mbg mwr mwk mlf (0)), (rf_RW ct 0 mw 958 f), (rf_RW ct 0 ma 958 fa1_4)] ++ ws_3) := hD
  refine lv_aload_n hx hb dX11_durationOf_4 rfl (lv_at hl 0 rfl) ?_
  refine lv_iload_n hx hb dX11_durationOf_5 rfl (lv_at hl 1 rfl) ?_
  refine lv_bipush (v := 39) hx hb dX11_durationOf_6 (by decide) ?_
  refine lv_iconst (v := 0) hx hb dX11_durationOf_8 (by decide) ?_
  have hP : va_P D vwCl ([(rf_RW ct 0 ma 958 fa1_4), (rf_MO mo mw ma mf m0 m1 mu mv u0 u1 iz th mb mn mpt mbg mwr mwk mlf (0)), (rf_RW ct 0 mw 958 f)] ++ ws_3) H := ty_permP hP (ty_ordp (E := [(rf_MO mo mw ma mf m0 m1 mu mv u0 u1 iz th mb mn mpt mbg mwr mwk mlf (0)), (rf_RW ct 0 mw 958 f), (rf_RW ct 0 ma 958 fa1_4)]) (E2 := [(rf_RW ct 0 ma 958 fa1_4), (rf_MO mo mw ma mf m0 m1 mu mv u0 u1 iz th mb mn mpt mbg mwr mwk mlf (0)), (rf_RW ct 0 mw 958 f)]) (n := 3) [2, 0, 1] rfl rfl (by decide))
  have hD : va_D A ([(rf_RW ct 0 ma 958 fa1_4), (rf_MO mo mw ma mf m0 m1 mu mv u0 u1 iz th mb mn mpt mbg mwr mwk mlf (0)), (rf_RW ct 0 mw 958 f)] ++ ws_3) := ty_permD hD (ty_ordp (E := [(rf_MO mo mw ma mf m0 m1 mu mv u0 u1 iz th mb mn mpt mbg mwr mwk mlf (0)), (rf_RW ct 0 mw 958 f), (rf_RW ct 0 ma 958 fa1_4)]) (E2 := [(rf_RW ct 0 ma 958 fa1_4), (rf_MO mo mw ma mf m0 m1 mu mv u0 u1 iz th mb mn mpt mbg mwr mwk mlf (0)), (rf_RW ct 0 mw 958 f)]) (n := 3) [2, 0, 1] rfl rfl (by decide))
  refine ty_kv (wr := [(rf_RW ct 0 ma 958 fa1_4)]) (wc := ([(rf_MO mo mw ma mf m0 m1 mu mv u0 u1 iz th mb mn mpt mbg mwr mwk mlf (0)), (rf_RW ct 0 mw 958 f)] ++ ws_3)) (va_runV (As := [.int p1, .int 39, .int 0]) (rest := []) ⟨hx, hb, hml, hown, hts⟩ (m_put_39 l D ct S ws_3 ph xx mo mw ma mf m0 m1 mu mv u0 u1 iz mb th mn mpt mbg mwr mwk mlf (0 : Int32) f G (-1) p1 (0 : Int32) _ hT h_mu h_mv h_u0 h_u1 hph hy1 hR hc (rf_z39)) (cm_V 3 hts kc_X11_put ki_RX11 kl_RX11_234 kv_X11_put kx_X11_put kd_X11_put ⟨Nat.le_of_ble_eq_true rfl, Nat.le_of_ble_eq_true rfl⟩) (ty_preE (wr := [(rf_RW ct 0 ma 958 fa1_4)]) (wc := ([(rf_MO mo mw ma mf m0 m1 mu mv u0 u1 iz th mb mn mpt mbg mwr mwk mlf (0)), (rf_RW ct 0 mw 958 f)] ++ ws_3)) (ci := 11) (q0 := 1) hP hK hD hS hA hX rfl rfl) rfl rfl hl.1 rfl (lv_room (Nat.le_of_ble_eq_true rfl)) dX11_durationOf_9 ⟨Nat.le_of_ble_eq_true rfl, Nat.le_of_ble_eq_true rfl⟩) hP hD hS hA (fun u H locs hw_7 hP hD hS => ?_)
  obtain ⟨ws_8, f1_9⟩ := u
  obtain ⟨hT, hp_10⟩ := hw_7
  have hp_10 : rf_d (f 8) f f1_9 ∧ rf_R G (-1) f1_9 ∧ rf_sm f f1_9 ∧ f1_9 = upd f (244 + 54 * p1.toInt.toNat + 39) (0 : Int32) := hp_10
  obtain ⟨hd_11, hq_12⟩ := hp_10
  have hD_13 := rf_dt (rf_dr f) hd_11
  have hR_14 := hq_12.1
  have hM_15 := rf_smt (rf_smr f) hq_12.2.1
  have hP : va_P D vwCl ([(rf_RW ct 0 ma 958 fa1_4), (rf_MO mo mw ma mf m0 m1 mu mv u0 u1 iz th mb mn mpt mbg mwr mwk mlf (0)), (rf_RW ct 0 mw 958 f1_9)] ++ ws_8) H := hP
  have hD : va_D A ([(rf_RW ct 0 ma 958 fa1_4), (rf_MO mo mw ma mf m0 m1 mu mv u0 u1 iz th mb mn mpt mbg mwr mwk mlf (0)), (rf_RW ct 0 mw 958 f1_9)] ++ ws_8) := hD
  refine lv_aload_n hx hb dX11_durationOf_12 rfl (lv_at hl 0 rfl) ?_
  refine lv_iload_n hx hb dX11_durationOf_13 rfl (lv_at hl 1 rfl) ?_
  refine lv_iload_n hx hb dX11_durationOf_14 rfl (lv_at hl 2 rfl) ?_
  refine ty_kv (wr := [(rf_RW ct 0 ma 958 fa1_4)]) (wc := ([(rf_MO mo mw ma mf m0 m1 mu mv u0 u1 iz th mb mn mpt mbg mwr mwk mlf (0)), (rf_RW ct 0 mw 958 f1_9)] ++ ws_8)) (va_runV (As := [.int p1, .int p2]) (rest := []) ⟨hx, hb, hml, hown, hts⟩ (m_X11_startsOn l D ct S ws_8 ph xx mo mw ma mf m0 m1 mu mv u0 u1 iz mb th mn mpt mbg mwr mwk mlf (0 : Int32) f1_9 G (-1) p1 p2 _ hT h_mu h_mv h_u0 h_u1 hph hy1 hy11 hR_14 hc (Or.inl rfl) hpr) (cm_V 2 hts kc_X11_startsOn ki_RX11 kl_RX11_288 kv_X11_startsOn kx_X11_startsOn kd_X11_startsOn ⟨Nat.le_of_ble_eq_true rfl, Nat.le_of_ble_eq_true rfl⟩) (ty_preE (wr := [(rf_RW ct 0 ma 958 fa1_4)]) (wc := ([(rf_MO mo mw ma mf m0 m1 mu mv u0 u1 iz th mb mn mpt mbg mwr mwk mlf (0)), (rf_RW ct 0 mw 958 f1_9)] ++ ws_8)) (ci := 11) (q0 := 1) hP hK hD hS hA hX rfl rfl) rfl rfl hl.1 rfl (lv_room (Nat.le_of_ble_eq_true rfl)) dX11_durationOf_15 ⟨Nat.le_of_ble_eq_true rfl, Nat.le_of_ble_eq_true rfl⟩) hP hD hS hA (fun u H locs hw_17 hP hD hS => ?_)
  obtain ⟨ws_18, f1_19⟩ := u
  obtain ⟨hT, hp_20⟩ := hw_17
  have hp_20 : rf_d (f1_9 8) f1_9 f1_19 ∧ rf_R G (-1) f1_19 := hp_20
  obtain ⟨hd_21, hq_22⟩ := hp_20
  have hD_23 := rf_dt hD_13 hd_21
  have hR_24 := hq_22
  have hP : va_P D vwCl ([(rf_RW ct 0 ma 958 fa1_4), (rf_MO mo mw ma mf m0 m1 mu mv u0 u1 iz th mb mn mpt mbg mwr mwk mlf (0)), (rf_RW ct 0 mw 958 f1_19)] ++ ws_18) H := hP
  have hD : va_D A ([(rf_RW ct 0 ma 958 fa1_4), (rf_MO mo mw ma mf m0 m1 mu mv u0 u1 iz th mb mn mpt mbg mwr mwk mlf (0)), (rf_RW ct 0 mw 958 f1_19)] ++ ws_18) := hD
  refine lv_aload_n hx hb dX11_durationOf_18 rfl (lv_at hl 0 rfl) ?_
  refine lv_iload_n hx hb dX11_durationOf_19 rfl (lv_at hl 1 rfl) ?_
  refine lv_iconst (v := 3) hx hb dX11_durationOf_20 (by decide) ?_
  refine ty_ki (wr := [(rf_RW ct 0 ma 958 fa1_4)]) (wc := ([(rf_MO mo mw ma mf m0 m1 mu mv u0 u1 iz th mb mn mpt mbg mwr mwk mlf (0)), (rf_RW ct 0 mw 958 f1_19)] ++ ws_18)) (va_runV (As := [.int p1, .int 3]) (rest := []) ⟨hx, hb, hml, hown, hts⟩ (m_X11_until l D ct S ws_18 ph xx mo mw ma mf m0 m1 mu mv u0 u1 iz mb th mn mpt mbg mwr mwk mlf (0 : Int32) f1_19 G p1 (3 : Int32) _ hT h_mu h_mv h_u0 h_u1 hph hy1 hy11 hR_24 hc) (cm_V 2 hts kc_X11_until ki_RX11 kl_RX11_388 kv_X11_until kx_X11_until kd_X11_until ⟨Nat.le_of_ble_eq_true rfl, Nat.le_of_ble_eq_true rfl⟩) (ty_preE (wr := [(rf_RW ct 0 ma 958 fa1_4)]) (wc := ([(rf_MO mo mw ma mf m0 m1 mu mv u0 u1 iz th mb mn mpt mbg mwr mwk mlf (0)), (rf_RW ct 0 mw 958 f1_19)] ++ ws_18)) (ci := 11) (q0 := 1) hP hK hD hS hA hX rfl rfl) rfl rfl hl.1 rfl (lv_room (Nat.le_of_ble_eq_true rfl)) dX11_durationOf_21 ⟨Nat.le_of_ble_eq_true rfl, Nat.le_of_ble_eq_true rfl⟩) hP hD hS hA (fun r_26 u H locs hw_27 hP hD hS => ?_)
  obtain ⟨ws_28, men1_29, f1_30⟩ := u
  obtain ⟨hT, hp_31⟩ := hw_27
  have hp_31 : rf_R G (-1) f1_30 := hp_31
  have hR_32 := hp_31
  have hP : va_P D vwCl ([(rf_RW ct 0 ma 958 fa1_4), (rf_MO mo mw ma mf m0 m1 mu mv u0 u1 iz th mb mn mpt mbg mwr mwk mlf men1_29), (rf_RW ct 0 mw 958 f1_30)] ++ ws_28) H := hP
  have hD : va_D A ([(rf_RW ct 0 ma 958 fa1_4), (rf_MO mo mw ma mf m0 m1 mu mv u0 u1 iz th mb mn mpt mbg mwr mwk mlf men1_29), (rf_RW ct 0 mw 958 f1_30)] ++ ws_28) := hD
  refine lv_istore_n (lv' := [(3, .int r_26), (0, .ref mo), (1, .int p1), (2, .int p2)]) hx hb dX11_durationOf_24 rfl hl (by decide) rfl (fun ls hl => ?_)
  refine lv_aload_n hx hb dX11_durationOf_25 rfl (lv_at hl 1 rfl) ?_
  have hP : va_P D vwCl ([(rf_MO mo mw ma mf m0 m1 mu mv u0 u1 iz th mb mn mpt mbg mwr mwk mlf men1_29), (rf_RW ct 0 mw 958 f1_30), (rf_RW ct 0 ma 958 fa1_4)] ++ ws_28) H := ty_permP hP (ty_ordp (E := [(rf_RW ct 0 ma 958 fa1_4), (rf_MO mo mw ma mf m0 m1 mu mv u0 u1 iz th mb mn mpt mbg mwr mwk mlf men1_29), (rf_RW ct 0 mw 958 f1_30)]) (E2 := [(rf_MO mo mw ma mf m0 m1 mu mv u0 u1 iz th mb mn mpt mbg mwr mwk mlf men1_29), (rf_RW ct 0 mw 958 f1_30), (rf_RW ct 0 ma 958 fa1_4)]) (n := 3) [1, 2, 0] rfl rfl (by decide))
  have hD : va_D A ([(rf_MO mo mw ma mf m0 m1 mu mv u0 u1 iz th mb mn mpt mbg mwr mwk mlf men1_29), (rf_RW ct 0 mw 958 f1_30), (rf_RW ct 0 ma 958 fa1_4)] ++ ws_28) := ty_permD hD (ty_ordp (E := [(rf_RW ct 0 ma 958 fa1_4), (rf_MO mo mw ma mf m0 m1 mu mv u0 u1 iz th mb mn mpt mbg mwr mwk mlf men1_29), (rf_RW ct 0 mw 958 f1_30)]) (E2 := [(rf_MO mo mw ma mf m0 m1 mu mv u0 u1 iz th mb mn mpt mbg mwr mwk mlf men1_29), (rf_RW ct 0 mw 958 f1_30), (rf_RW ct 0 ma 958 fa1_4)]) (n := 3) [1, 2, 0] rfl rfl (by decide))
  refine ty_kv (wr := []) (wc := ([(rf_MO mo mw ma mf m0 m1 mu mv u0 u1 iz th mb mn mpt mbg mwr mwk mlf men1_29), (rf_RW ct 0 mw 958 f1_30), (rf_RW ct 0 ma 958 fa1_4)] ++ ws_28)) (va_runV (As := []) (rest := []) ⟨hx, hb, hml, hown, hts⟩ (m_X11_comesBack l D ct S ws_28 ph xx mo mw ma mf m0 m1 mu mv u0 u1 iz mb th mn mpt mbg mwr mwk mlf men1_29 f1_30 G fa1_4 _ hT h_mu h_mv h_u0 h_u1 hph hy1 hy11 hp_5.1) (cm_V 0 hts kc_X11_comesBack ki_RX11 kl_RX11_385 kv_X11_comesBack kx_X11_comesBack kd_X11_comesBack ⟨Nat.le_of_ble_eq_true rfl, Nat.le_of_ble_eq_true rfl⟩) (ty_preE (wr := []) (wc := ([(rf_MO mo mw ma mf m0 m1 mu mv u0 u1 iz th mb mn mpt mbg mwr mwk mlf men1_29), (rf_RW ct 0 mw 958 f1_30), (rf_RW ct 0 ma 958 fa1_4)] ++ ws_28)) (ci := 11) (q0 := 0) hP hK hD hS hA hX rfl rfl) rfl rfl hl.1 rfl (lv_room (Nat.le_of_ble_eq_true rfl)) dX11_durationOf_26 ⟨Nat.le_of_ble_eq_true rfl, Nat.le_of_ble_eq_true rfl⟩) hP hD hS hA (fun u H locs hw_35 hP hD hS => ?_)
  obtain ⟨ws_36, f1_37⟩ := u
  obtain ⟨hT, hp_38⟩ := hw_35
  have hp_38 : rf_R G (-1) f1_37 ∧ f1_37 8 = fa1_4 8 := hp_38
  have hR_39 := hp_38.1
  have hP : va_P D vwCl ([(rf_MO mo mw ma mf m0 m1 mu mv u0 u1 iz th mb mn mpt mbg mwr mwk mlf men1_29), (rf_RW ct 0 mw 958 f1_37), (rf_RW ct 0 ma 958 fa1_4)] ++ ws_36) H := hP
  have hD : va_D A ([(rf_MO mo mw ma mf m0 m1 mu mv u0 u1 iz th mb mn mpt mbg mwr mwk mlf men1_29), (rf_RW ct 0 mw 958 f1_37), (rf_RW ct 0 ma 958 fa1_4)] ++ ws_36) := hD
  have hD_41 := rf_dg (rf_dr f) hp_5.2 hp_38.2
  refine lv_iload_n hx hb dX11_durationOf_29 rfl (lv_at hl 0 rfl) ?_
  exact W.iret (v := r_26) hx hb hr (fun t ht hW => ⟨⟨r_26, (ws_36, men1_29, f1_37, fa1_4), rfl, ⟨hT, ⟨hD_41, hR_39⟩⟩, by rw [ht]; exact hP, by rw [hAe]; exact hD⟩, hS.F ht⟩) hS.2.2 dX11_durationOf_30
theorem dX11_duration_0 : decode cX11_duration 0 = .ok (.aload_n 0, 1) := by decide +kernel
theorem dX11_duration_1 : decode cX11_duration 1 = .ok (.iload_n 1, 1) := by decide +kernel
theorem dX11_duration_2 : decode cX11_duration 2 = .ok (.iload_n 2, 1) := by decide +kernel
theorem dX11_duration_3 : decode cX11_duration 3 = .ok (.invokevirtual 347, 3) := by decide +kernel
theorem dX11_duration_6 : decode cX11_duration 6 = .ok (.ifCond .eq 7, 3) := by decide +kernel
theorem dX11_duration_9 : decode cX11_duration 9 = .ok (.iconst 0, 1) := by decide +kernel
theorem dX11_duration_10 : decode cX11_duration 10 = .ok (.goto 9, 3) := by decide +kernel
theorem dX11_duration_13 : decode cX11_duration 13 = .ok (.aload_n 0, 1) := by decide +kernel
theorem dX11_duration_14 : decode cX11_duration 14 = .ok (.iload_n 1, 1) := by decide +kernel
theorem dX11_duration_15 : decode cX11_duration 15 = .ok (.iload_n 2, 1) := by decide +kernel
theorem dX11_duration_16 : decode cX11_duration 16 = .ok (.invokevirtual 396, 3) := by decide +kernel
theorem dX11_duration_19 : decode cX11_duration 19 = .ok (.ireturn, 1) := by decide +kernel
set_option maxRecDepth 100000 in
set_option maxHeartbeats 4000000 in
theorem m_X11_duration (l : Launch) (D : va_G) (ct : Nat → ClassId) (S : ty_S) (ws : va_W) (ph : va_W → Prop) (xx : Nat → Nat → Nat → Prop) (mo : Nat) (mw : Nat) (ma : Nat) (mf : Nat) (m0 : Nat) (m1 : Nat) (mu : Nat) (mv : Nat) (u0 : Nat) (u1 : Nat) (iz : Nat) (mb : Nat) (th : Int32) (mn : Int32) (mpt : Int32) (mbg : Int32) (mwr : Int32) (mwk : Int32) (mlf : Int32) (men : Int32) (f : Nat → Int32) (G : Nat → Int32) (fa : Nat → Int32) (p1 : Int32) (p2 : Int32) (sz : Nat) (hT : ty_V ct S ph ws) (h_mu : S mu = some (.inr (1, 42))) (h_mv : S mv = some (.inr (1, 42))) (h_u0 : S u0 = some (.inr (1, 42))) (h_u1 : S u1 = some (.inr (1, 42))) (hph : ty_C ph xx) (hy1 : ty_y1 xx) (hy11 : ty_y0 xx 11) (hR : rf_R G (-1) f) : Met l yX11_duration (ws_ yX11_duration cX11_duration 3 (some .int)) ({ frames := 10, cells := 0, slots := 0, locals := 232 } : Room) (va_Pc [.ref mo, .int p1, .int p2] (cmP D ct sz ([(rf_MO mo mw ma mf m0 m1 mu mv u0 u1 iz th mb mn mpt mbg mwr mwk mlf men), (rf_RW ct 0 mw 958 f), (rf_RW ct 0 ma 958 fa)] ++ ws))) (va_Qi (fun (r : Int32) (u : va_W × Int32 × Int32 × (Nat → Int32) × (Nat → Int32)) => match u with | (u9, men1, th1, f1, fa1) => ty_V ct S ph u9 ∧ rf_d (f 8) f f1 ∧ rf_R G (-1) f1) (cmB D ([(rf_MO mo mw ma mf m0 m1 mu mv u0 u1 iz th mb mn mpt mbg mwr mwk mlf men), (rf_RW ct 0 mw 958 f), (rf_RW ct 0 ma 958 fa)] ++ ws) sz (fun (u : va_W × Int32 × Int32 × (Nat → Int32) × (Nat → Int32)) => match u with | (u9, men1, th1, f1, fa1) => ([(rf_MO mo mw ma mf m0 m1 mu mv u0 u1 iz th1 mb mn mpt mbg mwr mwk mlf men1), (rf_RW ct 0 mw 958 f1), (rf_RW ct 0 ma 958 fa1)] ++ u9))) (va_A ([(rf_MO mo mw ma mf m0 m1 mu mv u0 u1 iz th mb mn mpt mbg mwr mwk mlf men), (rf_RW ct 0 mw 958 f), (rf_RW ct 0 ma 958 fa)] ++ ws) sz)) 0 0 (va_A ([(rf_MO mo mw ma mf m0 m1 mu mv u0 u1 iz th mb mn mpt mbg mwr mwk mlf men), (rf_RW ct 0 mw 958 f), (rf_RW ct 0 ma 958 fa)] ++ ws) sz) := by
  refine Met.ofW (cc := cX11_duration) (maxL := 3) (ret := (some .int)) (by decide) rfl ?_
  intro p e s m args below meth c s₁ B hml hv
  obtain ⟨rfl, hsz, hP, hK, hD0, hX⟩ := hv
  have hx := B.exec
  have hb := B.bytes
  have hr := B.returns
  have hts := ws_all (atoms_spec (ws := ws_ yX11_duration cX11_duration 3 (some .int)) B.pre)
  have hown : s.vm.findClass RX11 = some m.cls := findClass_of_methodNamed B.named
  have hlocks := B.notSynchronized
  subst hsz
  have hD := hD0.self (sz := s.heap.size)
  generalize hAe : va_A ([(rf_MO mo mw ma mf m0 m1 mu mv u0 u1 iz th mb mn mpt mbg mwr mwk mlf men), (rf_RW ct 0 mw 958 f), (rf_RW ct 0 ma 958 fa)] ++ ws) s.heap.size = A at hD hX ⊢
  have hA : ∀ q : Nat, s.heap.size ≤ q → A q := fun q h => by rw [← hAe]; exact Or.inr h
  have hS : va_S A s.heap s.heap [] := va_S.rf
  have hl := lv_entry ([.ref mo, .int p1, .int p2]) (n := 3) (Nat.le_of_ble_eq_true rfl)
  rw [lg_entry_eq]
  generalize (lg_sl ([.ref mo, .int p1, .int p2]) ++ List.replicate (3 - (lg_sl ([.ref mo, .int p1, .int p2])).length) Slot.unset).toArray = ls at hl ⊢
  have hl : lv_has ls 3 [(0, .ref mo), (1, .int p1), (2, .int p2)] := hl
  refine lv_aload_n hx hb dX11_duration_0 rfl (lv_at hl 0 rfl) ?_
  refine lv_iload_n hx hb dX11_duration_1 rfl (lv_at hl 1 rfl) ?_
  refine lv_iload_n hx hb dX11_duration_2 rfl (lv_at hl 2 rfl) ?_
  have hP : va_P D vwCl ([(rf_RW ct 0 ma 958 fa), (rf_MO mo mw ma mf m0 m1 mu mv u0 u1 iz th mb mn mpt mbg mwr mwk mlf men), (rf_RW ct 0 mw 958 f)] ++ ws) s.heap := ty_permP hP (ty_ordp (E := [(rf_MO mo mw ma mf m0 m1 mu mv u0 u1 iz th mb mn mpt mbg mwr mwk mlf men), (rf_RW ct 0 mw 958 f), (rf_RW ct 0 ma 958 fa)]) (E2 := [(rf_RW ct 0 ma 958 fa), (rf_MO mo mw ma mf m0 m1 mu mv u0 u1 iz th mb mn mpt mbg mwr mwk mlf men), (rf_RW ct 0 mw 958 f)]) (n := 3) [2, 0, 1] rfl rfl (by decide))
  have hD : va_D A ([(rf_RW ct 0 ma 958 fa), (rf_MO mo mw ma mf m0 m1 mu mv u0 u1 iz th mb mn mpt mbg mwr mwk mlf men), (rf_RW ct 0 mw 958 f)] ++ ws) := ty_permD hD (ty_ordp (E := [(rf_MO mo mw ma mf m0 m1 mu mv u0 u1 iz th mb mn mpt mbg mwr mwk mlf men), (rf_RW ct 0 mw 958 f), (rf_RW ct 0 ma 958 fa)]) (E2 := [(rf_RW ct 0 ma 958 fa), (rf_MO mo mw ma mf m0 m1 mu mv u0 u1 iz th mb mn mpt mbg mwr mwk mlf men), (rf_RW ct 0 mw 958 f)]) (n := 3) [2, 0, 1] rfl rfl (by decide))
  refine ty_ki (wr := [(rf_RW ct 0 ma 958 fa)]) (wc := ([(rf_MO mo mw ma mf m0 m1 mu mv u0 u1 iz th mb mn mpt mbg mwr mwk mlf men), (rf_RW ct 0 mw 958 f)] ++ ws)) (va_runV (As := [.int p1, .int p2]) (rest := []) ⟨hx, hb, hml, hown, hts⟩ (m_X11_noProgram l D ct S ws ph xx mo mw ma mf m0 m1 mu mv u0 u1 iz mb th mn mpt mbg mwr mwk mlf men f G (-1) p1 p2 _ hT h_mu h_mv h_u0 h_u1 hph hy1 hR) (cm_V 2 hts kc_X11_noProgram ki_RX11 kl_RX11_347 kv_X11_noProgram kx_X11_noProgram kd_X11_noProgram ⟨Nat.le_of_ble_eq_true rfl, Nat.le_of_ble_eq_true rfl⟩) (ty_preE (wr := [(rf_RW ct 0 ma 958 fa)]) (wc := ([(rf_MO mo mw ma mf m0 m1 mu mv u0 u1 iz th mb mn mpt mbg mwr mwk mlf men), (rf_RW ct 0 mw 958 f)] ++ ws)) (ci := 11) (q0 := 1) hP hK hD hS hA hX rfl rfl) rfl rfl hl.1 rfl (lv_room (Nat.le_of_ble_eq_true rfl)) dX11_duration_3 ⟨Nat.le_of_ble_eq_true rfl, Nat.le_of_ble_eq_true rfl⟩) hP hD hS hA (fun r_1 u H locs hw_2 hP hD hS => ?_)
  obtain ⟨ws_3, th1_4⟩ := u
  obtain ⟨hT, hp_5⟩ := hw_2
  have hp_5 : ((r_1 = 0 ∧ (0 ≤ p1.toInt ∧ p1.toInt < (G 9).toInt) ∧ 0 ≤ p2.toInt ∧ p2.toInt < (G 10).toInt) ∨ r_1 = 1) := hp_5
  have hP : va_P D vwCl ([(rf_RW ct 0 ma 958 fa), (rf_MO mo mw ma mf m0 m1 mu mv u0 u1 iz th1_4 mb mn mpt mbg mwr mwk mlf men), (rf_RW ct 0 mw 958 f)] ++ ws_3) H := hP
  have hD : va_D A ([(rf_RW ct 0 ma 958 fa), (rf_MO mo mw ma mf m0 m1 mu mv u0 u1 iz th1_4 mb mn mpt mbg mwr mwk mlf men), (rf_RW ct 0 mw 958 f)] ++ ws_3) := hD
  rcases hp_5 with ⟨rfl, hz_6⟩ | rfl
  · refine lv_if_eq (tgt := 13) hx hb dX11_duration_6 (by decide) (fun _ => ?_) (fun hc => absurd (by decide) hc)
    refine lv_aload_n hx hb dX11_duration_13 rfl (lv_at hl 0 rfl) ?_
    refine lv_iload_n hx hb dX11_duration_14 rfl (lv_at hl 1 rfl) ?_
    refine lv_iload_n hx hb dX11_duration_15 rfl (lv_at hl 2 rfl) ?_
    have hP : va_P D vwCl ([(rf_MO mo mw ma mf m0 m1 mu mv u0 u1 iz th1_4 mb mn mpt mbg mwr mwk mlf men), (rf_RW ct 0 mw 958 f), (rf_RW ct 0 ma 958 fa)] ++ ws_3) H := ty_permP hP (ty_ordp (E := [(rf_RW ct 0 ma 958 fa), (rf_MO mo mw ma mf m0 m1 mu mv u0 u1 iz th1_4 mb mn mpt mbg mwr mwk mlf men), (rf_RW ct 0 mw 958 f)]) (E2 := [(rf_MO mo mw ma mf m0 m1 mu mv u0 u1 iz th1_4 mb mn mpt mbg mwr mwk mlf men), (rf_RW ct 0 mw 958 f), (rf_RW ct 0 ma 958 fa)]) (n := 3) [1, 2, 0] rfl rfl (by decide))
    have hD : va_D A ([(rf_MO mo mw ma mf m0 m1 mu mv u0 u1 iz th1_4 mb mn mpt mbg mwr mwk mlf men), (rf_RW ct 0 mw 958 f), (rf_RW ct 0 ma 958 fa)] ++ ws_3) := ty_permD hD (ty_ordp (E := [(rf_RW ct 0 ma 958 fa), (rf_MO mo mw ma mf m0 m1 mu mv u0 u1 iz th1_4 mb mn mpt mbg mwr mwk mlf men), (rf_RW ct 0 mw 958 f)]) (E2 := [(rf_MO mo mw ma mf m0 m1 mu mv u0 u1 iz th1_4 mb mn mpt mbg mwr mwk mlf men), (rf_RW ct 0 mw 958 f), (rf_RW ct 0 ma 958 fa)]) (n := 3) [1, 2, 0] rfl rfl (by decide))
    refine ty_ki (wr := []) (wc := ([(rf_MO mo mw ma mf m0 m1 mu mv u0 u1 iz th1_4 mb mn mpt mbg mwr mwk mlf men), (rf_RW ct 0 mw 958 f), (rf_RW ct 0 ma 958 fa)] ++ ws_3)) (va_runV (As := [.int p1, .int p2]) (rest := []) ⟨hx, hb, hml, hown, hts⟩ (m_X11_durationOf l D ct S ws_3 ph xx mo mw ma mf m0 m1 mu mv u0 u1 iz mb th1_4 mn mpt mbg mwr mwk mlf men f G fa p1 p2 _ hT h_mu h_mv h_u0 h_u1 hph hy1 hy11 hR hz_6.1 hz_6.2) (cm_V 2 hts kc_X11_durationOf ki_RX11 kl_RX11_396 kv_X11_durationOf kx_X11_durationOf kd_X11_durationOf ⟨Nat.le_of_ble_eq_true rfl, Nat.le_of_ble_eq_true rfl⟩) (ty_preE (wr := []) (wc := ([(rf_MO mo mw ma mf m0 m1 mu mv u0 u1 iz th1_4 mb mn mpt mbg mwr mwk mlf men), (rf_RW ct 0 mw 958 f), (rf_RW ct 0 ma 958 fa)] ++ ws_3)) (ci := 11) (q0 := 0) hP hK hD hS hA hX rfl rfl) rfl rfl hl.1 rfl (lv_room (Nat.le_of_ble_eq_true rfl)) dX11_duration_16 ⟨Nat.le_of_ble_eq_true rfl, Nat.le_of_ble_eq_true rfl⟩) hP hD hS hA (fun r_7 u H locs hw_8 hP hD hS => ?_)
    obtain ⟨ws_9, men1_10, f1_11, fa1_12⟩ := u
    obtain ⟨hT, hp_13⟩ := hw_8
    have hp_13 : rf_d (f 8) f f1_11 ∧ rf_R G (-1) f1_11 := hp_13
    obtain ⟨hd_14, hq_15⟩ := hp_13
    have hD_16 := rf_dt (rf_dr f) hd_14
    have hR_17 := hq_15
    have hP : va_P D vwCl ([(rf_MO mo mw ma mf m0 m1 mu mv u0 u1 iz th1_4 mb mn mpt mbg mwr mwk mlf men1_10), (rf_RW ct 0 mw 958 f1_11), (rf_RW ct 0 ma 958 fa1_12)] ++ ws_9) H := hP
    have hD : va_D A ([(rf_MO mo mw ma mf m0 m1 mu mv u0 u1 iz th1_4 mb mn mpt mbg mwr mwk mlf men1_10), (rf_RW ct 0 mw 958 f1_11), (rf_RW ct 0 ma 958 fa1_12)] ++ ws_9) := hD
    exact W.iret (v := r_7) hx hb hr (fun t ht hW => ⟨⟨r_7, (ws_9, men1_10, th1_4, f1_11, fa1_12), rfl, ⟨hT, ⟨hD_16, hR_17⟩⟩, by rw [ht]; exact hP, by rw [hAe]; exact hD⟩, hS.F ht⟩) hS.2.2 dX11_duration_19
  · refine lv_if_eq (tgt := 13) hx hb dX11_duration_6 (by decide) (fun hc => absurd hc (by decide)) (fun _ => ?_)
    refine lv_iconst (v := 0) hx hb dX11_duration_9 (by decide) ?_
    refine lv_goto (tgt := 19) hx hb dX11_duration_10 (by decide) ?_
    have hP : va_P D vwCl ([(rf_MO mo mw ma mf m0 m1 mu mv u0 u1 iz th1_4 mb mn mpt mbg mwr mwk mlf men), (rf_RW ct 0 mw 958 f), (rf_RW ct 0 ma 958 fa)] ++ ws_3) H := ty_permP hP (ty_ordp (E := [(rf_RW ct 0 ma 958 fa), (rf_MO mo mw ma mf m0 m1 mu mv u0 u1 iz th1_4 mb mn mpt mbg mwr mwk mlf men), (rf_RW ct 0 mw 958 f)]) (E2 := [(rf_MO mo mw ma mf m0 m1 mu mv u0 u1 iz th1_4 mb mn mpt mbg mwr mwk mlf men), (rf_RW ct 0 mw 958 f), (rf_RW ct 0 ma 958 fa)]) (n := 3) [1, 2, 0] rfl rfl (by decide))
    have hD : va_D A ([(rf_MO mo mw ma mf m0 m1 mu mv u0 u1 iz th1_4 mb mn mpt mbg mwr mwk mlf men), (rf_RW ct 0 mw 958 f), (rf_RW ct 0 ma 958 fa)] ++ ws_3) := ty_permD hD (ty_ordp (E := [(rf_RW ct 0 ma 958 fa), (rf_MO mo mw ma mf m0 m1 mu mv u0 u1 iz th1_4 mb mn mpt mbg mwr mwk mlf men), (rf_RW ct 0 mw 958 f)]) (E2 := [(rf_MO mo mw ma mf m0 m1 mu mv u0 u1 iz th1_4 mb mn mpt mbg mwr mwk mlf men), (rf_RW ct 0 mw 958 f), (rf_RW ct 0 ma 958 fa)]) (n := 3) [1, 2, 0] rfl rfl (by decide))
    exact W.iret (v := 0) hx hb hr (fun t ht hW => ⟨⟨0, (ws_3, men, th1_4, f, fa), rfl, ⟨hT, ⟨(rf_dr f), hR⟩⟩, by rw [ht]; exact hP, by rw [hAe]; exact hD⟩, hS.F ht⟩) hS.2.2 dX11_duration_19
theorem dX11_shortest_0 : decode cX11_shortest 0 = .ok (.aload_n 0, 1) := by decide +kernel
theorem dX11_shortest_1 : decode cX11_shortest 1 = .ok (.iload_n 1, 1) := by decide +kernel
theorem dX11_shortest_2 : decode cX11_shortest 2 = .ok (.invokevirtual 344, 3) := by decide +kernel
theorem dX11_shortest_5 : decode cX11_shortest 5 = .ok (.ifCond .eq 5, 3) := by decide +kernel
theorem dX11_shortest_8 : decode cX11_shortest 8 = .ok (.iconst 0, 1) := by decide +kernel
theorem dX11_shortest_9 : decode cX11_shortest 9 = .ok (.ireturn, 1) := by decide +kernel
theorem dX11_shortest_10 : decode cX11_shortest 10 = .ok (.iconst (-1), 1) := by decide +kernel
theorem dX11_shortest_11 : decode cX11_shortest 11 = .ok (.istore_n 2, 1) := by decide +kernel
theorem dX11_shortest_12 : decode cX11_shortest 12 = .ok (.iconst 0, 1) := by decide +kernel
theorem dX11_shortest_13 : decode cX11_shortest 13 = .ok (.istore_n 3, 1) := by decide +kernel
theorem dX11_shortest_14 : decode cX11_shortest 14 = .ok (.iconst 0, 1) := by decide +kernel
theorem dX11_shortest_15 : decode cX11_shortest 15 = .ok (.istore 4, 2) := by decide +kernel
theorem dX11_shortest_17 : decode cX11_shortest 17 = .ok (.iload 4, 2) := by decide +kernel
theorem dX11_shortest_19 : decode cX11_shortest 19 = .ok (.aload_n 0, 1) := by decide +kernel
theorem dX11_shortest_20 : decode cX11_shortest 20 = .ok (.getfield 9, 3) := by decide +kernel
theorem dX11_shortest_23 : decode cX11_shortest 23 = .ok (.bipush 10, 2) := by decide +kernel
theorem dX11_shortest_25 : decode cX11_shortest 25 = .ok (.iaload, 1) := by decide +kernel
theorem dX11_shortest_26 : decode cX11_shortest 26 = .ok (.if_icmp .ge 44, 3) := by decide +kernel
theorem dX11_shortest_29 : decode cX11_shortest 29 = .ok (.aload_n 0, 1) := by decide +kernel
theorem dX11_shortest_30 : decode cX11_shortest 30 = .ok (.iload_n 1, 1) := by decide +kernel
theorem dX11_shortest_31 : decode cX11_shortest 31 = .ok (.iload 4, 2) := by decide +kernel
theorem dX11_shortest_33 : decode cX11_shortest 33 = .ok (.invokevirtual 396, 3) := by decide +kernel
theorem dX11_shortest_36 : decode cX11_shortest 36 = .ok (.istore 5, 2) := by decide +kernel
theorem dX11_shortest_38 : decode cX11_shortest 38 = .ok (.iload 5, 2) := by decide +kernel
theorem dX11_shortest_40 : decode cX11_shortest 40 = .ok (.iconst (-1), 1) := by decide +kernel
theorem dX11_shortest_41 : decode cX11_shortest 41 = .ok (.if_icmp .eq 23, 3) := by decide +kernel
theorem dX11_shortest_44 : decode cX11_shortest 44 = .ok (.iload_n 2, 1) := by decide +kernel
theorem dX11_shortest_45 : decode cX11_shortest 45 = .ok (.iconst (-1), 1) := by decide +kernel
theorem dX11_shortest_46 : decode cX11_shortest 46 = .ok (.if_icmp .eq 12, 3) := by decide +kernel
theorem dX11_shortest_49 : decode cX11_shortest 49 = .ok (.iload 5, 2) := by decide +kernel
theorem dX11_shortest_51 : decode cX11_shortest 51 = .ok (.iload_n 3, 1) := by decide +kernel
theorem dX11_shortest_52 : decode cX11_shortest 52 = .ok (.if_icmp .lt 6, 3) := by decide +kernel
theorem dX11_shortest_55 : decode cX11_shortest 55 = .ok (.goto 9, 3) := by decide +kernel
theorem dX11_shortest_58 : decode cX11_shortest 58 = .ok (.iload 4, 2) := by decide +kernel
theorem dX11_shortest_60 : decode cX11_shortest 60 = .ok (.istore_n 2, 1) := by decide +kernel
theorem dX11_shortest_61 : decode cX11_shortest 61 = .ok (.iload 5, 2) := by decide +kernel
theorem dX11_shortest_63 : decode cX11_shortest 63 = .ok (.istore_n 3, 1) := by decide +kernel
theorem dX11_shortest_64 : decode cX11_shortest 64 = .ok (.iinc 4 1, 3) := by decide +kernel
theorem dX11_shortest_67 : decode cX11_shortest 67 = .ok (.goto (-50), 3) := by decide +kernel
theorem dX11_shortest_70 : decode cX11_shortest 70 = .ok (.iload_n 2, 1) := by decide +kernel
theorem dX11_shortest_71 : decode cX11_shortest 71 = .ok (.ireturn, 1) := by decide +kernel
set_option maxRecDepth 100000 in
set_option maxHeartbeats 4000000 in
theorem m_X11_shortest (l : Launch) (D : va_G) (ct : Nat → ClassId) (S : ty_S) (ws : va_W) (ph : va_W → Prop) (xx : Nat → Nat → Nat → Prop) (mo : Nat) (mw : Nat) (ma : Nat) (mf : Nat) (m0 : Nat) (m1 : Nat) (mu : Nat) (mv : Nat) (u0 : Nat) (u1 : Nat) (iz : Nat) (mb : Nat) (th : Int32) (mn : Int32) (mpt : Int32) (mbg : Int32) (mwr : Int32) (mwk : Int32) (mlf : Int32) (men : Int32) (f : Nat → Int32) (G : Nat → Int32) (fa : Nat → Int32) (p1 : Int32) (sz : Nat) (hT : ty_V ct S ph ws) (h_mu : S mu = some (.inr (1, 42))) (h_mv : S mv = some (.inr (1, 42))) (h_u0 : S u0 = some (.inr (1, 42))) (h_u1 : S u1 = some (.inr (1, 42))) (hph : ty_C ph xx) (hy1 : ty_y1 xx) (hy11 : ty_y0 xx 11) (hR : rf_R G (-1) f) : Met l yX11_shortest (ws_ yX11_shortest cX11_shortest 6 (some .int)) ({ frames := 10, cells := 0, slots := 0, locals := 232 } : Room) (va_Pc [.ref mo, .int p1] (cmP D ct sz ([(rf_MO mo mw ma mf m0 m1 mu mv u0 u1 iz th mb mn mpt mbg mwr mwk mlf men), (rf_RW ct 0 mw 958 f), (rf_RW ct 0 ma 958 fa)] ++ ws))) (va_Qi (fun (r : Int32) (u : va_W × Int32 × Int32 × (Nat → Int32) × (Nat → Int32)) => match u with | (u9, men1, th1, f1, fa1) => ty_V ct S ph u9 ∧ rf_d (f 8) f f1 ∧ rf_R G (-1) f1) (cmB D ([(rf_MO mo mw ma mf m0 m1 mu mv u0 u1 iz th mb mn mpt mbg mwr mwk mlf men), (rf_RW ct 0 mw 958 f), (rf_RW ct 0 ma 958 fa)] ++ ws) sz (fun (u : va_W × Int32 × Int32 × (Nat → Int32) × (Nat → Int32)) => match u with | (u9, men1, th1, f1, fa1) => ([(rf_MO mo mw ma mf m0 m1 mu mv u0 u1 iz th1 mb mn mpt mbg mwr mwk mlf men1), (rf_RW ct 0 mw 958 f1), (rf_RW ct 0 ma 958 fa1)] ++ u9))) (va_A ([(rf_MO mo mw ma mf m0 m1 mu mv u0 u1 iz th mb mn mpt mbg mwr mwk mlf men), (rf_RW ct 0 mw 958 f), (rf_RW ct 0 ma 958 fa)] ++ ws) sz)) 0 0 (va_A ([(rf_MO mo mw ma mf m0 m1 mu mv u0 u1 iz th mb mn mpt mbg mwr mwk mlf men), (rf_RW ct 0 mw 958 f), (rf_RW ct 0 ma 958 fa)] ++ ws) sz) := by
  refine Met.ofW (cc := cX11_shortest) (maxL := 6) (ret := (some .int)) (by decide) rfl ?_
  intro p e s m args below meth c s₁ B hml hv
  obtain ⟨rfl, hsz, hP, hK, hD0, hX⟩ := hv
  have hx := B.exec
  have hb := B.bytes
  have hr := B.returns
  have hts := ws_all (atoms_spec (ws := ws_ yX11_shortest cX11_shortest 6 (some .int)) B.pre)
  have hown : s.vm.findClass RX11 = some m.cls := findClass_of_methodNamed B.named
  have hlocks := B.notSynchronized
  subst hsz
  have hD := hD0.self (sz := s.heap.size)
  generalize hAe : va_A ([(rf_MO mo mw ma mf m0 m1 mu mv u0 u1 iz th mb mn mpt mbg mwr mwk mlf men), (rf_RW ct 0 mw 958 f), (rf_RW ct 0 ma 958 fa)] ++ ws) s.heap.size = A at hD hX ⊢
  have hA : ∀ q : Nat, s.heap.size ≤ q → A q := fun q h => by rw [← hAe]; exact Or.inr h
  have hS : va_S A s.heap s.heap [] := va_S.rf
  have hl := lv_entry ([.ref mo, .int p1]) (n := 6) (Nat.le_of_ble_eq_true rfl)
  rw [lg_entry_eq]
  generalize (lg_sl ([.ref mo, .int p1]) ++ List.replicate (6 - (lg_sl ([.ref mo, .int p1])).length) Slot.unset).toArray = ls at hl ⊢
  have hl : lv_has ls 6 [(0, .ref mo), (1, .int p1)] := hl
  refine lv_aload_n hx hb dX11_shortest_0 rfl (lv_at hl 0 rfl) ?_
  refine lv_iload_n hx hb dX11_shortest_1 rfl (lv_at hl 1 rfl) ?_
  have hP : va_P D vwCl ([(rf_RW ct 0 ma 958 fa), (rf_MO mo mw ma mf m0 m1 mu mv u0 u1 iz th mb mn mpt mbg mwr mwk mlf men), (rf_RW ct 0 mw 958 f)] ++ ws) s.heap := ty_permP hP (ty_ordp (E := [(rf_MO mo mw ma mf m0 m1 mu mv u0 u1 iz th mb mn mpt mbg mwr mwk mlf men), (rf_RW ct 0 mw 958 f), (rf_RW ct 0 ma 958 fa)]) (E2 := [(rf_RW ct 0 ma 958 fa), (rf_MO mo mw ma mf m0 m1 mu mv u0 u1 iz th mb mn mpt mbg mwr mwk mlf men), (rf_RW ct 0 mw 958 f)]) (n := 3) [2, 0, 1] rfl rfl (by decide))
  have hD : va_D A ([(rf_RW ct 0 ma 958 fa), (rf_MO mo mw ma mf m0 m1 mu mv u0 u1 iz th mb mn mpt mbg mwr mwk mlf men), (rf_RW ct 0 mw 958 f)] ++ ws) := ty_permD hD (ty_ordp (E := [(rf_MO mo mw ma mf m0 m1 mu mv u0 u1 iz th mb mn mpt mbg mwr mwk mlf men), (rf_RW ct 0 mw 958 f), (rf_RW ct 0 ma 958 fa)]) (E2 := [(rf_RW ct 0 ma 958 fa), (rf_MO mo mw ma mf m0 m1 mu mv u0 u1 iz th mb mn mpt mbg mwr mwk mlf men), (rf_RW ct 0 mw 958 f)]) (n := 3) [2, 0, 1] rfl rfl (by decide))
  refine ty_ki (wr := [(rf_RW ct 0 ma 958 fa)]) (wc := ([(rf_MO mo mw ma mf m0 m1 mu mv u0 u1 iz th mb mn mpt mbg mwr mwk mlf men), (rf_RW ct 0 mw 958 f)] ++ ws)) (va_runV (As := [.int p1]) (rest := []) ⟨hx, hb, hml, hown, hts⟩ (m_X11_noChannel l D ct S ws ph xx mo mw ma mf m0 m1 mu mv u0 u1 iz mb th mn mpt mbg mwr mwk mlf men f G (-1) p1 _ hT h_mu h_mv h_u0 h_u1 hph hy1 hR) (cm_V 1 hts kc_X11_noChannel ki_RX11 kl_RX11_344 kv_X11_noChannel kx_X11_noChannel kd_X11_noChannel ⟨Nat.le_of_ble_eq_true rfl, Nat.le_of_ble_eq_true rfl⟩) (ty_preE (wr := [(rf_RW ct 0 ma 958 fa)]) (wc := ([(rf_MO mo mw ma mf m0 m1 mu mv u0 u1 iz th mb mn mpt mbg mwr mwk mlf men), (rf_RW ct 0 mw 958 f)] ++ ws)) (ci := 11) (q0 := 1) hP hK hD hS hA hX rfl rfl) rfl rfl hl.1 rfl (lv_room (Nat.le_of_ble_eq_true rfl)) dX11_shortest_2 ⟨Nat.le_of_ble_eq_true rfl, Nat.le_of_ble_eq_true rfl⟩) hP hD hS hA (fun r_1 u H locs hw_2 hP hD hS => ?_)
  obtain ⟨ws_3, th1_4⟩ := u
  obtain ⟨hT, hp_5⟩ := hw_2
  have hp_5 : ((r_1 = 0 ∧ 0 ≤ p1.toInt ∧ p1.toInt < (G 9).toInt) ∨ r_1 = 1) := hp_5
  have hP : va_P D vwCl ([(rf_RW ct 0 ma 958 fa), (rf_MO mo mw ma mf m0 m1 mu mv u0 u1 iz th1_4 mb mn mpt mbg mwr mwk mlf men), (rf_RW ct 0 mw 958 f)] ++ ws_3) H := hP
  have hD : va_D A ([(rf_RW ct 0 ma 958 fa), (rf_MO mo mw ma mf m0 m1 mu mv u0 u1 iz th1_4 mb mn mpt mbg mwr mwk mlf men), (rf_RW ct 0 mw 958 f)] ++ ws_3) := hD
  rcases hp_5 with ⟨rfl, hz_6⟩ | rfl
  · refine lv_if_eq (tgt := 10) hx hb dX11_shortest_5 (by decide) (fun _ => ?_) (fun hc => absurd (by decide) hc)
    refine lv_iconst (v := (-1)) hx hb dX11_shortest_10 (by decide) ?_
    refine lv_istore_n (lv' := [(2, .int (-1)), (0, .ref mo), (1, .int p1)]) hx hb dX11_shortest_11 rfl hl (by decide) rfl (fun ls hl => ?_)
    refine lv_iconst (v := 0) hx hb dX11_shortest_12 (by decide) ?_
    refine lv_istore_n (lv' := [(3, .int 0), (2, .int (-1)), (0, .ref mo), (1, .int p1)]) hx hb dX11_shortest_13 rfl hl (by decide) rfl (fun ls hl => ?_)
    refine lv_iconst (v := 0) hx hb dX11_shortest_14 (by decide) ?_
    refine lv_istore (lv' := [(4, .int 0), (3, .int 0), (2, .int (-1)), (0, .ref mo), (1, .int p1)]) hx hb dX11_shortest_15 hl (by decide) rfl (fun ls hl => ?_)
    refine ty_loop (I := fun μ H locs ls => ∃ (ws : va_W) (y_7 : Int32) (y_8 : Int32) (y_9 : Int32) (y_10 : Int32) (f_11 : Nat → Int32) (g_12 : Nat → Int32), μ = (2147483648 - y_9.toInt).toNat ∧ ty_V ct S ph ws ∧ va_P D vwCl ([(rf_RW ct 0 ma 958 g_12), (rf_MO mo mw ma mf m0 m1 mu mv u0 u1 iz th1_4 mb mn mpt mbg mwr mwk mlf y_10), (rf_RW ct 0 mw 958 f_11)] ++ ws) H ∧ va_D A ([(rf_RW ct 0 ma 958 g_12), (rf_MO mo mw ma mf m0 m1 mu mv u0 u1 iz th1_4 mb mn mpt mbg mwr mwk mlf y_10), (rf_RW ct 0 mw 958 f_11)] ++ ws) ∧ va_S A s.heap H locs ∧ lv_has ls 6 [(0, .ref mo), (1, .int p1), (2, .int y_7), (3, .int y_8), (4, .int y_9)] ∧ rf_R G (-1) f_11 ∧ rf_d (f 8) f f_11 ∧ 0 ≤ y_9.toInt) ⟨_, ws_3, ((-1) : Int32), (0 : Int32), (0 : Int32), men, f, fa, rfl, hT, hP, hD, hS, (lv_sub hl [3, 4, 2, 1, 0] rfl), hR, (rf_dr f), (by decide)⟩ (fun μ H locs ls hI ih_17 => ?_)
    obtain ⟨ws, y_7, y_8, y_9, y_10, f_11, g_12, rfl, hT, hP, hD, hS, hl, hR_17, hD_17, hex_17⟩ := hI
    refine lv_iload hx hb dX11_shortest_17 (lv_at hl 4 rfl) ?_
    refine lv_aload_n hx hb dX11_shortest_19 rfl (lv_at hl 0 rfl) ?_
    refine va_get (v := .ref mw) (D := D) (ci := 11) (C := RX11) (T := TX11) (N := 19) hx hb hts in_X11 hown hK hP 1 rfl rfl 0 (by decide) (hts _ kl_RX11_9) (fun _ h9 => h9) rfl dX11_shortest_20 ?_
    refine lv_bipush (v := 10) hx hb dX11_shortest_23 (by decide) ?_
    refine va_iald hx hb hK hP 2 0 rfl rfl (cm_vin (by decide)) dX11_shortest_25 ?_
    refine cm_cst (y := (f_11 10)) (by first | rfl | decide +kernel) ?_
    refine lv_icmp_ge (tgt := 70) hx hb dX11_shortest_26 (by decide) (fun hc_13 => ?_) (fun hc_13 => ?_)
    · refine lv_iload_n hx hb dX11_shortest_70 rfl (lv_at hl 2 rfl) ?_
      have hP : va_P D vwCl ([(rf_MO mo mw ma mf m0 m1 mu mv u0 u1 iz th1_4 mb mn mpt mbg mwr mwk mlf y_10), (rf_RW ct 0 mw 958 f_11), (rf_RW ct 0 ma 958 g_12)] ++ ws) H := ty_permP hP (ty_ordp (E := [(rf_RW ct 0 ma 958 g_12), (rf_MO mo mw ma mf m0 m1 mu mv u0 u1 iz th1_4 mb mn mpt mbg mwr mwk mlf y_10), (rf_RW ct 0 mw 958 f_11)]) (E2 := [(rf_MO mo mw ma mf m0 m1 mu mv u0 u1 iz th1_4 mb mn mpt mbg mwr mwk mlf y_10), (rf_RW ct 0 mw 958 f_11), (rf_RW ct 0 ma 958 g_12)]) (n := 3) [1, 2, 0] rfl rfl (by decide))
      have hD : va_D A ([(rf_MO mo mw ma mf m0 m1 mu mv u0 u1 iz th1_4 mb mn mpt mbg mwr mwk mlf y_10), (rf_RW ct 0 mw 958 f_11), (rf_RW ct 0 ma 958 g_12)] ++ ws) := ty_permD hD (ty_ordp (E := [(rf_RW ct 0 ma 958 g_12), (rf_MO mo mw ma mf m0 m1 mu mv u0 u1 iz th1_4 mb mn mpt mbg mwr mwk mlf y_10), (rf_RW ct 0 mw 958 f_11)]) (E2 := [(rf_MO mo mw ma mf m0 m1 mu mv u0 u1 iz th1_4 mb mn mpt mbg mwr mwk mlf y_10), (rf_RW ct 0 mw 958 f_11), (rf_RW ct 0 ma 958 g_12)]) (n := 3) [1, 2, 0] rfl rfl (by decide))
      exact W.iret (v := y_7) hx hb hr (fun t ht hW => ⟨⟨y_7, (ws, y_10, th1_4, f_11, g_12), rfl, ⟨hT, ⟨hD_17, hR_17⟩⟩, by rw [ht]; exact hP, by rw [hAe]; exact hD⟩, hS.F ht⟩) hS.2.2 dX11_shortest_71
    · refine lv_aload_n hx hb dX11_shortest_29 rfl (lv_at hl 0 rfl) ?_
      refine lv_iload_n hx hb dX11_shortest_30 rfl (lv_at hl 1 rfl) ?_
      refine lv_iload hx hb dX11_shortest_31 (lv_at hl 4 rfl) ?_
      have hP : va_P D vwCl ([(rf_MO mo mw ma mf m0 m1 mu mv u0 u1 iz th1_4 mb mn mpt mbg mwr mwk mlf y_10), (rf_RW ct 0 mw 958 f_11), (rf_RW ct 0 ma 958 g_12)] ++ ws) H := ty_permP hP (ty_ordp (E := [(rf_RW ct 0 ma 958 g_12), (rf_MO mo mw ma mf m0 m1 mu mv u0 u1 iz th1_4 mb mn mpt mbg mwr mwk mlf y_10), (rf_RW ct 0 mw 958 f_11)]) (E2 := [(rf_MO mo mw ma mf m0 m1 mu mv u0 u1 iz th1_4 mb mn mpt mbg mwr mwk mlf y_10), (rf_RW ct 0 mw 958 f_11), (rf_RW ct 0 ma 958 g_12)]) (n := 3) [1, 2, 0] rfl rfl (by decide))
      have hD : va_D A ([(rf_MO mo mw ma mf m0 m1 mu mv u0 u1 iz th1_4 mb mn mpt mbg mwr mwk mlf y_10), (rf_RW ct 0 mw 958 f_11), (rf_RW ct 0 ma 958 g_12)] ++ ws) := ty_permD hD (ty_ordp (E := [(rf_RW ct 0 ma 958 g_12), (rf_MO mo mw ma mf m0 m1 mu mv u0 u1 iz th1_4 mb mn mpt mbg mwr mwk mlf y_10), (rf_RW ct 0 mw 958 f_11)]) (E2 := [(rf_MO mo mw ma mf m0 m1 mu mv u0 u1 iz th1_4 mb mn mpt mbg mwr mwk mlf y_10), (rf_RW ct 0 mw 958 f_11), (rf_RW ct 0 ma 958 g_12)]) (n := 3) [1, 2, 0] rfl rfl (by decide))
      refine ty_ki (wr := []) (wc := ([(rf_MO mo mw ma mf m0 m1 mu mv u0 u1 iz th1_4 mb mn mpt mbg mwr mwk mlf y_10), (rf_RW ct 0 mw 958 f_11), (rf_RW ct 0 ma 958 g_12)] ++ ws)) (va_runV (As := [.int p1, .int y_9]) (rest := []) ⟨hx, hb, hml, hown, hts⟩ (m_X11_durationOf l D ct S ws ph xx mo mw ma mf m0 m1 mu mv u0 u1 iz mb th1_4 mn mpt mbg mwr mwk mlf y_10 f_11 G g_12 p1 y_9 _ hT h_mu h_mv h_u0 h_u1 hph hy1 hy11 hR_17 hz_6 ⟨hex_17, by rw [← hR_17.2.1.2.2.2.2.2.1]; exact rf_ylt rfl hc_13⟩) (cm_V 2 hts kc_X11_durationOf ki_RX11 kl_RX11_396 kv_X11_durationOf kx_X11_durationOf kd_X11_durationOf ⟨Nat.le_of_ble_eq_true rfl, Nat.le_of_ble_eq_true rfl⟩) (ty_preE (wr := []) (wc := ([(rf_MO mo mw ma mf m0 m1 mu mv u0 u1 iz th1_4 mb mn mpt mbg mwr mwk mlf y_10), (rf_RW ct 0 mw 958 f_11), (rf_RW ct 0 ma 958 g_12)] ++ ws)) (ci := 11) (q0 := 0) hP hK hD hS hA hX rfl rfl) rfl rfl hl.1 rfl (lv_room (Nat.le_of_ble_eq_true rfl)) dX11_shortest_33 ⟨Nat.le_of_ble_eq_true rfl, Nat.le_of_ble_eq_true rfl⟩) hP hD hS hA (fun r_14 u H locs hw_15 hP hD hS => ?_)
      obtain ⟨ws_16, men1_17, f1_18, fa1_19⟩ := u
      obtain ⟨hT, hp_20⟩ := hw_15
      have hp_20 : rf_d (f_11 8) f_11 f1_18 ∧ rf_R G (-1) f1_18 := hp_20
      obtain ⟨hd_21, hq_22⟩ := hp_20
      have hD_23 := rf_dt hD_17 hd_21
      have hR_24 := hq_22
      have hP : va_P D vwCl ([(rf_MO mo mw ma mf m0 m1 mu mv u0 u1 iz th1_4 mb mn mpt mbg mwr mwk mlf men1_17), (rf_RW ct 0 mw 958 f1_18), (rf_RW ct 0 ma 958 fa1_19)] ++ ws_16) H := hP
      have hD : va_D A ([(rf_MO mo mw ma mf m0 m1 mu mv u0 u1 iz th1_4 mb mn mpt mbg mwr mwk mlf men1_17), (rf_RW ct 0 mw 958 f1_18), (rf_RW ct 0 ma 958 fa1_19)] ++ ws_16) := hD
      refine lv_istore (lv' := [(5, .int r_14), (0, .ref mo), (1, .int p1), (2, .int y_7), (3, .int y_8), (4, .int y_9)]) hx hb dX11_shortest_36 hl (by decide) rfl (fun ls hl => ?_)
      refine lv_iload hx hb dX11_shortest_38 (lv_at hl 0 rfl) ?_
      refine lv_iconst (v := (-1)) hx hb dX11_shortest_40 (by decide) ?_
      refine lv_icmp_eq (tgt := 64) hx hb dX11_shortest_41 (by decide) (fun hc_26 => ?_) (fun hc_26 => ?_)
      · refine lv_iinc (v := (y_9 + Int32.ofInt 1)) (lv' := [(4, .int (y_9 + Int32.ofInt 1)), (5, .int r_14), (0, .ref mo), (1, .int p1), (2, .int y_7), (3, .int y_8)]) hx hb dX11_shortest_64 hl (k := 5) rfl rfl (by decide) rfl (fun ls hl => ?_)
        refine lv_goto (tgt := 17) hx hb dX11_shortest_67 (by decide) ?_
        have hP : va_P D vwCl ([(rf_RW ct 0 ma 958 fa1_19), (rf_MO mo mw ma mf m0 m1 mu mv u0 u1 iz th1_4 mb mn mpt mbg mwr mwk mlf men1_17), (rf_RW ct 0 mw 958 f1_18)] ++ ws_16) H := ty_permP hP (ty_ordp (E := [(rf_MO mo mw ma mf m0 m1 mu mv u0 u1 iz th1_4 mb mn mpt mbg mwr mwk mlf men1_17), (rf_RW ct 0 mw 958 f1_18), (rf_RW ct 0 ma 958 fa1_19)]) (E2 := [(rf_RW ct 0 ma 958 fa1_19), (rf_MO mo mw ma mf m0 m1 mu mv u0 u1 iz th1_4 mb mn mpt mbg mwr mwk mlf men1_17), (rf_RW ct 0 mw 958 f1_18)]) (n := 3) [2, 0, 1] rfl rfl (by decide))
        have hD : va_D A ([(rf_RW ct 0 ma 958 fa1_19), (rf_MO mo mw ma mf m0 m1 mu mv u0 u1 iz th1_4 mb mn mpt mbg mwr mwk mlf men1_17), (rf_RW ct 0 mw 958 f1_18)] ++ ws_16) := ty_permD hD (ty_ordp (E := [(rf_MO mo mw ma mf m0 m1 mu mv u0 u1 iz th1_4 mb mn mpt mbg mwr mwk mlf men1_17), (rf_RW ct 0 mw 958 f1_18), (rf_RW ct 0 ma 958 fa1_19)]) (E2 := [(rf_RW ct 0 ma 958 fa1_19), (rf_MO mo mw ma mf m0 m1 mu mv u0 u1 iz th1_4 mb mn mpt mbg mwr mwk mlf men1_17), (rf_RW ct 0 mw 958 f1_18)]) (n := 3) [2, 0, 1] rfl rfl (by decide))
        exact ih_17 _ _ _ _ (ty_inc (cm_lt hc_13)) ⟨ws_16, y_7, y_8, (y_9 + Int32.ofInt 1), men1_17, f1_18, fa1_19, rfl, hT, hP, hD, hS, (lv_sub hl [2, 3, 4, 5, 0] rfl), hR_24, hD_23, (ty_nn hex_17 (cm_lt hc_13))⟩
      · refine lv_iload_n hx hb dX11_shortest_44 rfl (lv_at hl 3 rfl) ?_
        refine lv_iconst (v := (-1)) hx hb dX11_shortest_45 (by decide) ?_
        refine lv_icmp_eq (tgt := 58) hx hb dX11_shortest_46 (by decide) (fun hc_27 => ?_) (fun hc_27 => ?_)
        · refine lv_iload hx hb dX11_shortest_58 (lv_at hl 5 rfl) ?_
          refine lv_istore_n (lv' := [(2, .int y_9), (5, .int r_14), (0, .ref mo), (1, .int p1), (3, .int y_8), (4, .int y_9)]) hx hb dX11_shortest_60 rfl hl (by decide) rfl (fun ls hl => ?_)
          refine lv_iload hx hb dX11_shortest_61 (lv_at hl 1 rfl) ?_
          refine lv_istore_n (lv' := [(3, .int r_14), (2, .int y_9), (5, .int r_14), (0, .ref mo), (1, .int p1), (4, .int y_9)]) hx hb dX11_shortest_63 rfl hl (by decide) rfl (fun ls hl => ?_)
          refine lv_iinc (v := (y_9 + Int32.ofInt 1)) (lv' := [(4, .int (y_9 + Int32.ofInt 1)), (3, .int r_14), (2, .int y_9), (5, .int r_14), (0, .ref mo), (1, .int p1)]) hx hb dX11_shortest_64 hl (k := 5) rfl rfl (by decide) rfl (fun ls hl => ?_)
          refine lv_goto (tgt := 17) hx hb dX11_shortest_67 (by decide) ?_
          have hP : va_P D vwCl ([(rf_RW ct 0 ma 958 fa1_19), (rf_MO mo mw ma mf m0 m1 mu mv u0 u1 iz th1_4 mb mn mpt mbg mwr mwk mlf men1_17), (rf_RW ct 0 mw 958 f1_18)] ++ ws_16) H := ty_permP hP (ty_ordp (E := [(rf_MO mo mw ma mf m0 m1 mu mv u0 u1 iz th1_4 mb mn mpt mbg mwr mwk mlf men1_17), (rf_RW ct 0 mw 958 f1_18), (rf_RW ct 0 ma 958 fa1_19)]) (E2 := [(rf_RW ct 0 ma 958 fa1_19), (rf_MO mo mw ma mf m0 m1 mu mv u0 u1 iz th1_4 mb mn mpt mbg mwr mwk mlf men1_17), (rf_RW ct 0 mw 958 f1_18)]) (n := 3) [2, 0, 1] rfl rfl (by decide))
          have hD : va_D A ([(rf_RW ct 0 ma 958 fa1_19), (rf_MO mo mw ma mf m0 m1 mu mv u0 u1 iz th1_4 mb mn mpt mbg mwr mwk mlf men1_17), (rf_RW ct 0 mw 958 f1_18)] ++ ws_16) := ty_permD hD (ty_ordp (E := [(rf_MO mo mw ma mf m0 m1 mu mv u0 u1 iz th1_4 mb mn mpt mbg mwr mwk mlf men1_17), (rf_RW ct 0 mw 958 f1_18), (rf_RW ct 0 ma 958 fa1_19)]) (E2 := [(rf_RW ct 0 ma 958 fa1_19), (rf_MO mo mw ma mf m0 m1 mu mv u0 u1 iz th1_4 mb mn mpt mbg mwr mwk mlf men1_17), (rf_RW ct 0 mw 958 f1_18)]) (n := 3) [2, 0, 1] rfl rfl (by decide))
          exact ih_17 _ _ _ _ (ty_inc (cm_lt hc_13)) ⟨ws_16, y_9, r_14, (y_9 + Int32.ofInt 1), men1_17, f1_18, fa1_19, rfl, hT, hP, hD, hS, (lv_sub hl [4, 5, 2, 1, 0] rfl), hR_24, hD_23, (ty_nn hex_17 (cm_lt hc_13))⟩
        · refine lv_iload hx hb dX11_shortest_49 (lv_at hl 0 rfl) ?_
          refine lv_iload_n hx hb dX11_shortest_51 rfl (lv_at hl 4 rfl) ?_
          refine lv_icmp_lt (tgt := 58) hx hb dX11_shortest_52 (by decide) (fun hc_28 => ?_) (fun hc_28 => ?_)
          · refine lv_iload hx hb dX11_shortest_58 (lv_at hl 5 rfl) ?_
            refine lv_istore_n (lv' := [(2, .int y_9), (5, .int r_14), (0, .ref mo), (1, .int p1), (3, .int y_8), (4, .int y_9)]) hx hb dX11_shortest_60 rfl hl (by decide) rfl (fun ls hl => ?_)
            refine lv_iload hx hb dX11_shortest_61 (lv_at hl 1 rfl) ?_
            refine lv_istore_n (lv' := [(3, .int r_14), (2, .int y_9), (5, .int r_14), (0, .ref mo), (1, .int p1), (4, .int y_9)]) hx hb dX11_shortest_63 rfl hl (by decide) rfl (fun ls hl => ?_)
            refine lv_iinc (v := (y_9 + Int32.ofInt 1)) (lv' := [(4, .int (y_9 + Int32.ofInt 1)), (3, .int r_14), (2, .int y_9), (5, .int r_14), (0, .ref mo), (1, .int p1)]) hx hb dX11_shortest_64 hl (k := 5) rfl rfl (by decide) rfl (fun ls hl => ?_)
            refine lv_goto (tgt := 17) hx hb dX11_shortest_67 (by decide) ?_
            have hP : va_P D vwCl ([(rf_RW ct 0 ma 958 fa1_19), (rf_MO mo mw ma mf m0 m1 mu mv u0 u1 iz th1_4 mb mn mpt mbg mwr mwk mlf men1_17), (rf_RW ct 0 mw 958 f1_18)] ++ ws_16) H := ty_permP hP (ty_ordp (E := [(rf_MO mo mw ma mf m0 m1 mu mv u0 u1 iz th1_4 mb mn mpt mbg mwr mwk mlf men1_17), (rf_RW ct 0 mw 958 f1_18), (rf_RW ct 0 ma 958 fa1_19)]) (E2 := [(rf_RW ct 0 ma 958 fa1_19), (rf_MO mo mw ma mf m0 m1 mu mv u0 u1 iz th1_4 mb mn mpt mbg mwr mwk mlf men1_17), (rf_RW ct 0 mw 958 f1_18)]) (n := 3) [2, 0, 1] rfl rfl (by decide))
            have hD : va_D A ([(rf_RW ct 0 ma 958 fa1_19), (rf_MO mo mw ma mf m0 m1 mu mv u0 u1 iz th1_4 mb mn mpt mbg mwr mwk mlf men1_17), (rf_RW ct 0 mw 958 f1_18)] ++ ws_16) := ty_permD hD (ty_ordp (E := [(rf_MO mo mw ma mf m0 m1 mu mv u0 u1 iz th1_4 mb mn mpt mbg mwr mwk mlf men1_17), (rf_RW ct 0 mw 958 f1_18), (rf_RW ct 0 ma 958 fa1_19)]) (E2 := [(rf_RW ct 0 ma 958 fa1_19), (rf_MO mo mw ma mf m0 m1 mu mv u0 u1 iz th1_4 mb mn mpt mbg mwr mwk mlf men1_17), (rf_RW ct 0 mw 958 f1_18)]) (n := 3) [2, 0, 1] rfl rfl (by decide))
            exact ih_17 _ _ _ _ (ty_inc (cm_lt hc_13)) ⟨ws_16, y_9, r_14, (y_9 + Int32.ofInt 1), men1_17, f1_18, fa1_19, rfl, hT, hP, hD, hS, (lv_sub hl [4, 5, 2, 1, 0] rfl), hR_24, hD_23, (ty_nn hex_17 (cm_lt hc_13))⟩
          · refine lv_goto (tgt := 64) hx hb dX11_shortest_55 (by decide) ?_
            refine lv_iinc (v := (y_9 + Int32.ofInt 1)) (lv' := [(4, .int (y_9 + Int32.ofInt 1)), (5, .int r_14), (0, .ref mo), (1, .int p1), (2, .int y_7), (3, .int y_8)]) hx hb dX11_shortest_64 hl (k := 5) rfl rfl (by decide) rfl (fun ls hl => ?_)
            refine lv_goto (tgt := 17) hx hb dX11_shortest_67 (by decide) ?_
            have hP : va_P D vwCl ([(rf_RW ct 0 ma 958 fa1_19), (rf_MO mo mw ma mf m0 m1 mu mv u0 u1 iz th1_4 mb mn mpt mbg mwr mwk mlf men1_17), (rf_RW ct 0 mw 958 f1_18)] ++ ws_16) H := ty_permP hP (ty_ordp (E := [(rf_MO mo mw ma mf m0 m1 mu mv u0 u1 iz th1_4 mb mn mpt mbg mwr mwk mlf men1_17), (rf_RW ct 0 mw 958 f1_18), (rf_RW ct 0 ma 958 fa1_19)]) (E2 := [(rf_RW ct 0 ma 958 fa1_19), (rf_MO mo mw ma mf m0 m1 mu mv u0 u1 iz th1_4 mb mn mpt mbg mwr mwk mlf men1_17), (rf_RW ct 0 mw 958 f1_18)]) (n := 3) [2, 0, 1] rfl rfl (by decide))
            have hD : va_D A ([(rf_RW ct 0 ma 958 fa1_19), (rf_MO mo mw ma mf m0 m1 mu mv u0 u1 iz th1_4 mb mn mpt mbg mwr mwk mlf men1_17), (rf_RW ct 0 mw 958 f1_18)] ++ ws_16) := ty_permD hD (ty_ordp (E := [(rf_MO mo mw ma mf m0 m1 mu mv u0 u1 iz th1_4 mb mn mpt mbg mwr mwk mlf men1_17), (rf_RW ct 0 mw 958 f1_18), (rf_RW ct 0 ma 958 fa1_19)]) (E2 := [(rf_RW ct 0 ma 958 fa1_19), (rf_MO mo mw ma mf m0 m1 mu mv u0 u1 iz th1_4 mb mn mpt mbg mwr mwk mlf men1_17), (rf_RW ct 0 mw 958 f1_18)]) (n := 3) [2, 0, 1] rfl rfl (by decide))
            exact ih_17 _ _ _ _ (ty_inc (cm_lt hc_13)) ⟨ws_16, y_7, y_8, (y_9 + Int32.ofInt 1), men1_17, f1_18, fa1_19, rfl, hT, hP, hD, hS, (lv_sub hl [2, 3, 4, 5, 0] rfl), hR_24, hD_23, (ty_nn hex_17 (cm_lt hc_13))⟩
  · refine lv_if_eq (tgt := 10) hx hb dX11_shortest_5 (by decide) (fun hc => absurd hc (by decide)) (fun _ => ?_)
    refine lv_iconst (v := 0) hx hb dX11_shortest_8 (by decide) ?_
    have hP : va_P D vwCl ([(rf_MO mo mw ma mf m0 m1 mu mv u0 u1 iz th1_4 mb mn mpt mbg mwr mwk mlf men), (rf_RW ct 0 mw 958 f), (rf_RW ct 0 ma 958 fa)] ++ ws_3) H := ty_permP hP (ty_ordp (E := [(rf_RW ct 0 ma 958 fa), (rf_MO mo mw ma mf m0 m1 mu mv u0 u1 iz th1_4 mb mn mpt mbg mwr mwk mlf men), (rf_RW ct 0 mw 958 f)]) (E2 := [(rf_MO mo mw ma mf m0 m1 mu mv u0 u1 iz th1_4 mb mn mpt mbg mwr mwk mlf men), (rf_RW ct 0 mw 958 f), (rf_RW ct 0 ma 958 fa)]) (n := 3) [1, 2, 0] rfl rfl (by decide))
    have hD : va_D A ([(rf_MO mo mw ma mf m0 m1 mu mv u0 u1 iz th1_4 mb mn mpt mbg mwr mwk mlf men), (rf_RW ct 0 mw 958 f), (rf_RW ct 0 ma 958 fa)] ++ ws_3) := ty_permD hD (ty_ordp (E := [(rf_RW ct 0 ma 958 fa), (rf_MO mo mw ma mf m0 m1 mu mv u0 u1 iz th1_4 mb mn mpt mbg mwr mwk mlf men), (rf_RW ct 0 mw 958 f)]) (E2 := [(rf_MO mo mw ma mf m0 m1 mu mv u0 u1 iz th1_4 mb mn mpt mbg mwr mwk mlf men), (rf_RW ct 0 mw 958 f), (rf_RW ct 0 ma 958 fa)]) (n := 3) [1, 2, 0] rfl rfl (by decide))
    exact W.iret (v := 0) hx hb hr (fun t ht hW => ⟨⟨0, (ws_3, men, th1_4, f, fa), rfl, ⟨hT, ⟨(rf_dr f), hR⟩⟩, by rw [ht]; exact hP, by rw [hAe]; exact hD⟩, hS.F ht⟩) hS.2.2 dX11_shortest_9
