theorem dX11_watches_0 : decode cX11_watches 0 = .ok (.aload_n 0, 1) := by decide +kernel
theorem dX11_watches_1 : decode cX11_watches 1 = .ok (.iload_n 1, 1) := by decide +kernel
theorem dX11_watches_2 : decode cX11_watches 2 = .ok (.iconst 3, 1) := by decide +kernel
theorem dX11_watches_3 : decode cX11_watches 3 = .ok (.aload_n 0, 1) := by decide +kernel
theorem dX11_watches_4 : decode cX11_watches 4 = .ok (.iload_n 1, 1) := by decide +kernel
theorem dX11_watches_5 : decode cX11_watches 5 = .ok (.iconst 3, 1) := by decide +kernel
theorem dX11_watches_6 : decode cX11_watches 6 = .ok (.invokevirtual 209, 3) := by decide +kernel
theorem dX11_watches_9 : decode cX11_watches 9 = .ok (.iconst 1, 1) := by decide +kernel
theorem dX11_watches_10 : decode cX11_watches 10 = .ok (.iadd, 1) := by decide +kernel
theorem dX11_watches_11 : decode cX11_watches 11 = .ok (.invokevirtual 234, 3) := by decide +kernel
theorem dX11_watches_14 : decode cX11_watches 14 = .ok (.aload_n 0, 1) := by decide +kernel
theorem dX11_watches_15 : decode cX11_watches 15 = .ok (.iload_n 1, 1) := by decide +kernel
theorem dX11_watches_16 : decode cX11_watches 16 = .ok (.invokevirtual 294, 3) := by decide +kernel
theorem dX11_watches_19 : decode cX11_watches 19 = .ok (.istore_n 2, 1) := by decide +kernel
theorem dX11_watches_20 : decode cX11_watches 20 = .ok (.iload_n 2, 1) := by decide +kernel
theorem dX11_watches_21 : decode cX11_watches 21 = .ok (.ifCond .le 28, 3) := by decide +kernel
theorem dX11_watches_24 : decode cX11_watches 24 = .ok (.aload_n 0, 1) := by decide +kernel
theorem dX11_watches_25 : decode cX11_watches 25 = .ok (.iload_n 1, 1) := by decide +kernel
theorem dX11_watches_26 : decode cX11_watches 26 = .ok (.iconst 0, 1) := by decide +kernel
theorem dX11_watches_27 : decode cX11_watches 27 = .ok (.iconst 4, 1) := by decide +kernel
theorem dX11_watches_28 : decode cX11_watches 28 = .ok (.invokevirtual 234, 3) := by decide +kernel
theorem dX11_watches_31 : decode cX11_watches 31 = .ok (.aload_n 0, 1) := by decide +kernel
theorem dX11_watches_32 : decode cX11_watches 32 = .ok (.iload_n 1, 1) := by decide +kernel
theorem dX11_watches_33 : decode cX11_watches 33 = .ok (.bipush 10, 2) := by decide +kernel
theorem dX11_watches_35 : decode cX11_watches 35 = .ok (.iload_n 2, 1) := by decide +kernel
theorem dX11_watches_36 : decode cX11_watches 36 = .ok (.invokevirtual 234, 3) := by decide +kernel
theorem dX11_watches_39 : decode cX11_watches 39 = .ok (.aload_n 0, 1) := by decide +kernel
theorem dX11_watches_40 : decode cX11_watches 40 = .ok (.iload_n 1, 1) := by decide +kernel
theorem dX11_watches_41 : decode cX11_watches 41 = .ok (.iconst 3, 1) := by decide +kernel
theorem dX11_watches_42 : decode cX11_watches 42 = .ok (.iload_n 2, 1) := by decide +kernel
theorem dX11_watches_43 : decode cX11_watches 43 = .ok (.invokevirtual 282, 3) := by decide +kernel
theorem dX11_watches_46 : decode cX11_watches 46 = .ok (.goto 51, 3) := by decide +kernel
theorem dX11_watches_49 : decode cX11_watches 49 = .ok (.aload_n 0, 1) := by decide +kernel
theorem dX11_watches_50 : decode cX11_watches 50 = .ok (.iload_n 1, 1) := by decide +kernel
theorem dX11_watches_51 : decode cX11_watches 51 = .ok (.invokevirtual 258, 3) := by decide +kernel
theorem dX11_watches_54 : decode cX11_watches 54 = .ok (.ifCond .eq 43, 3) := by decide +kernel
theorem dX11_watches_57 : decode cX11_watches 57 = .ok (.aload_n 0, 1) := by decide +kernel
theorem dX11_watches_58 : decode cX11_watches 58 = .ok (.iload_n 1, 1) := by decide +kernel
theorem dX11_watches_59 : decode cX11_watches 59 = .ok (.invokevirtual 297, 3) := by decide +kernel
theorem dX11_watches_62 : decode cX11_watches 62 = .ok (.aload_n 0, 1) := by decide +kernel
theorem dX11_watches_63 : decode cX11_watches 63 = .ok (.dup, 1) := by decide +kernel
theorem dX11_watches_64 : decode cX11_watches 64 = .ok (.getfield 300, 3) := by decide +kernel
theorem dX11_watches_67 : decode cX11_watches 67 = .ok (.iconst 1, 1) := by decide +kernel
theorem dX11_watches_68 : decode cX11_watches 68 = .ok (.iadd, 1) := by decide +kernel
theorem dX11_watches_69 : decode cX11_watches 69 = .ok (.putfield 300, 3) := by decide +kernel
theorem dX11_watches_72 : decode cX11_watches 72 = .ok (.aload_n 0, 1) := by decide +kernel
theorem dX11_watches_73 : decode cX11_watches 73 = .ok (.iload_n 1, 1) := by decide +kernel
theorem dX11_watches_74 : decode cX11_watches 74 = .ok (.iconst 1, 1) := by decide +kernel
theorem dX11_watches_75 : decode cX11_watches 75 = .ok (.aload_n 0, 1) := by decide +kernel
theorem dX11_watches_76 : decode cX11_watches 76 = .ok (.iload_n 1, 1) := by decide +kernel
theorem dX11_watches_77 : decode cX11_watches 77 = .ok (.iconst 2, 1) := by decide +kernel
theorem dX11_watches_78 : decode cX11_watches 78 = .ok (.invokevirtual 209, 3) := by decide +kernel
theorem dX11_watches_81 : decode cX11_watches 81 = .ok (.invokevirtual 282, 3) := by decide +kernel
theorem dX11_watches_84 : decode cX11_watches 84 = .ok (.aload_n 0, 1) := by decide +kernel
theorem dX11_watches_85 : decode cX11_watches 85 = .ok (.iload_n 1, 1) := by decide +kernel
theorem dX11_watches_86 : decode cX11_watches 86 = .ok (.aload_n 0, 1) := by decide +kernel
theorem dX11_watches_87 : decode cX11_watches 87 = .ok (.iload_n 1, 1) := by decide +kernel
theorem dX11_watches_88 : decode cX11_watches 88 = .ok (.iconst 2, 1) := by decide +kernel
theorem dX11_watches_89 : decode cX11_watches 89 = .ok (.invokevirtual 209, 3) := by decide +kernel
theorem dX11_watches_92 : decode cX11_watches 92 = .ok (.iconst 1, 1) := by decide +kernel
theorem dX11_watches_93 : decode cX11_watches 93 = .ok (.iadd, 1) := by decide +kernel
theorem dX11_watches_94 : decode cX11_watches 94 = .ok (.invokevirtual 291, 3) := by decide +kernel
theorem dX11_watches_97 : decode cX11_watches 97 = .ok (.return_, 1) := by decide +kernel
set_option maxRecDepth 100000 in
set_option maxHeartbeats 4000000 in
theorem m_X11_watches (l : Launch) (D : va_G) (ct : Nat → ClassId) (S : ty_S) (ws : va_W) (ph : va_W → Prop) (xx : Nat → Nat → Nat → Prop) (mo : Nat) (mw : Nat) (ma : Nat) (mf : Nat) (m0 : Nat) (m1 : Nat) (mu : Nat) (mv : Nat) (u0 : Nat) (u1 : Nat) (iz : Nat) (mb : Nat) (th : Int32) (mn : Int32) (mpt : Int32) (mbg : Int32) (mwr : Int32) (mwk : Int32) (mlf : Int32) (men : Int32) (f : Nat → Int32) (G : Nat → Int32) (p1 : Int32) (sz : Nat) (hT : ty_V ct S ph ws) (h_mu : S mu = some (.inr (1, 42))) (h_mv : S mv = some (.inr (1, 42))) (h_u0 : S u0 = some (.inr (1, 42))) (h_u1 : S u1 = some (.inr (1, 42))) (hph : ty_C ph xx) (hy1 : ty_y1 xx) (hy11 : ty_y0 xx 11) (hR : rf_R G (-1) f) (hc : 0 ≤ p1.toInt ∧ p1.toInt < (G 9).toInt) (ho : rf_on G f p1) : Met l yX11_watches (ws_ yX11_watches cX11_watches 3 none) ({ frames := 5, cells := 0, slots := 0, locals := 118 } : Room) (va_Pc [.ref mo, .int p1] (cmP D ct sz ([(rf_MO mo mw ma mf m0 m1 mu mv u0 u1 iz th mb mn mpt mbg mwr mwk mlf men), (rf_RW ct 0 mw 958 f)] ++ ws))) (va_Qv (fun (u : va_W × Int32 × (Nat → Int32)) => match u with | (u9, men1, f1) => ty_V ct S ph u9 ∧ rf_d (f 8) f f1 ∧ rf_R G (-1) f1) (cmB D ([(rf_MO mo mw ma mf m0 m1 mu mv u0 u1 iz th mb mn mpt mbg mwr mwk mlf men), (rf_RW ct 0 mw 958 f)] ++ ws) sz (fun (u : va_W × Int32 × (Nat → Int32)) => match u with | (u9, men1, f1) => ([(rf_MO mo mw ma mf m0 m1 mu mv u0 u1 iz th mb mn mpt mbg mwr mwk mlf men1), (rf_RW ct 0 mw 958 f1)] ++ u9))) (va_A ([(rf_MO mo mw ma mf m0 m1 mu mv u0 u1 iz th mb mn mpt mbg mwr mwk mlf men), (rf_RW ct 0 mw 958 f)] ++ ws) sz)) 0 0 (va_A ([(rf_MO mo mw ma mf m0 m1 mu mv u0 u1 iz th mb mn mpt mbg mwr mwk mlf men), (rf_RW ct 0 mw 958 f)] ++ ws) sz) := by
  refine Met.ofW (cc := cX11_watches) (maxL := 3) (ret := none) (by decide) rfl ?_
  intro p e s m args below meth c s₁ B hml hv
  obtain ⟨rfl, hsz, hP, hK, hD0, hX⟩ := hv
  have hx := B.exec
  have hb := B.bytes
  have hr := B.returns
  have hts := ws_all (atoms_spec (ws := ws_ yX11_watches cX11_watches 3 none) B.pre)
  have hown : s.vm.findClass RX11 = some m.cls := findClass_of_methodNamed B.named
  have hlocks := B.notSynchronized
  subst hsz
  have hD := hD0.self (sz := s.heap.size)
  generalize hAe : va_A ([(rf_MO mo mw ma mf m0 m1 mu mv u0 u1 iz th mb mn mpt mbg mwr mwk mlf men), (rf_RW ct 0 mw 958 f)] ++ ws) s.heap.size = A at hD hX ⊢
  have hA : ∀ q : Nat, s.heap.size ≤ q → A q := fun q h => by rw [← hAe]; exact Or.inr h
  have hS : va_S A s.heap s.heap [] := va_S.rf
  have hl := lv_entry ([.ref mo, .int p1]) (n := 3) (Nat.le_of_ble_eq_true rfl)
  rw [lg_entry_eq]
  generalize (lg_sl ([.ref mo, .int p1]) ++ List.replicate (3 - (lg_sl ([.ref mo, .int p1])).length) Slot.unset).toArray = ls at hl ⊢
  have hl : lv_has ls 3 [(0, .ref mo), (1, .int p1)] := hl
  refine lv_aload_n hx hb dX11_watches_0 rfl (lv_at hl 0 rfl) ?_
  refine lv_iload_n hx hb dX11_watches_1 rfl (lv_at hl 1 rfl) ?_
  refine lv_iconst (v := 3) hx hb dX11_watches_2 (by decide) ?_
  refine lv_aload_n hx hb dX11_watches_3 rfl (lv_at hl 0 rfl) ?_
  refine lv_iload_n hx hb dX11_watches_4 rfl (lv_at hl 1 rfl) ?_
  refine lv_iconst (v := 3) hx hb dX11_watches_5 (by decide) ?_
  refine ty_ki (wr := []) (wc := ([(rf_MO mo mw ma mf m0 m1 mu mv u0 u1 iz th mb mn mpt mbg mwr mwk mlf men), (rf_RW ct 0 mw 958 f)] ++ ws)) (va_runV (As := [.int p1, .int 3]) (rest := [.int 3, .int p1, .ref mo]) ⟨hx, hb, hml, hown, hts⟩ (m_of_3 l D ct S ws ph xx mo mw ma mf m0 m1 mu mv u0 u1 iz mb th mn mpt mbg mwr mwk mlf men f G (-1) p1 _ hT h_mu h_mv h_u0 h_u1 hph hy1 hR hc) (cm_V 2 hts kc_X11_of ki_RX11 kl_RX11_209 kv_X11_of kx_X11_of kd_X11_of ⟨Nat.le_of_ble_eq_true rfl, Nat.le_of_ble_eq_true rfl⟩) (ty_preE (wr := []) (wc := ([(rf_MO mo mw ma mf m0 m1 mu mv u0 u1 iz th mb mn mpt mbg mwr mwk mlf men), (rf_RW ct 0 mw 958 f)] ++ ws)) (ci := 11) (q0 := 0) hP hK hD hS hA hX rfl rfl) rfl rfl hl.1 rfl (lv_room (Nat.le_of_ble_eq_true rfl)) dX11_watches_6 ⟨Nat.le_of_ble_eq_true rfl, Nat.le_of_ble_eq_true rfl⟩) hP hD hS hA (fun r_1 u H locs hw_2 hP hD hS => ?_)
  obtain ⟨ws_3, rfl⟩ : ∃ z, z = u := ⟨_, rfl⟩
  obtain ⟨hT, rfl⟩ := hw_2
  have hP : va_P D vwCl ([(rf_MO mo mw ma mf m0 m1 mu mv u0 u1 iz th mb mn mpt mbg mwr mwk mlf men), (rf_RW ct 0 mw 958 f)] ++ ws_3) H := hP
  have hD : va_D A ([(rf_MO mo mw ma mf m0 m1 mu mv u0 u1 iz th mb mn mpt mbg mwr mwk mlf men), (rf_RW ct 0 mw 958 f)] ++ ws_3) := hD
  refine lv_iconst (v := 1) hx hb dX11_watches_9 (by decide) ?_
  refine lv_iadd hx hb dX11_watches_10 ?_
  refine lv_topi (fun x_4 _ => ?_)
  refine ty_kv (wr := []) (wc := ([(rf_MO mo mw ma mf m0 m1 mu mv u0 u1 iz th mb mn mpt mbg mwr mwk mlf men), (rf_RW ct 0 mw 958 f)] ++ ws_3)) (va_runV (As := [.int p1, .int 3, .int x_4]) (rest := []) ⟨hx, hb, hml, hown, hts⟩ (m_put_3 l D ct S ws_3 ph xx mo mw ma mf m0 m1 mu mv u0 u1 iz mb th mn mpt mbg mwr mwk mlf men f G (-1) p1 x_4 _ hT h_mu h_mv h_u0 h_u1 hph hy1 hR hc) (cm_V 3 hts kc_X11_put ki_RX11 kl_RX11_234 kv_X11_put kx_X11_put kd_X11_put ⟨Nat.le_of_ble_eq_true rfl, Nat.le_of_ble_eq_true rfl⟩) (ty_preE (wr := []) (wc := ([(rf_MO mo mw ma mf m0 m1 mu mv u0 u1 iz th mb mn mpt mbg mwr mwk mlf men), (rf_RW ct 0 mw 958 f)] ++ ws_3)) (ci := 11) (q0 := 0) hP hK hD hS hA hX rfl rfl) rfl rfl hl.1 rfl (lv_room (Nat.le_of_ble_eq_true rfl)) dX11_watches_11 ⟨Nat.le_of_ble_eq_true rfl, Nat.le_of_ble_eq_true rfl⟩) hP hD hS hA (fun u H locs hw_6 hP hD hS => ?_)
  obtain ⟨ws_7, f1_8⟩ := u
  obtain ⟨hT, hp_9⟩ := hw_6
  have hp_9 : rf_d (f 8) f f1_8 ∧ rf_R G (-1) f1_8 ∧ rf_sm f f1_8 ∧ f1_8 = upd f (244 + 54 * p1.toInt.toNat + 3) x_4 := hp_9
  obtain ⟨hd_10, hq_11⟩ := hp_9
  have hD_12 := rf_dt (rf_dr f) hd_10
  have hR_13 := hq_11.1
  have hM_14 := rf_smt (rf_smr f) hq_11.2.1
  have ho_15 := rf_ons hR hc hq_11.2.1 ho
  have hP : va_P D vwCl ([(rf_MO mo mw ma mf m0 m1 mu mv u0 u1 iz th mb mn mpt mbg mwr mwk mlf men), (rf_RW ct 0 mw 958 f1_8)] ++ ws_7) H := hP
  have hD : va_D A ([(rf_MO mo mw ma mf m0 m1 mu mv u0 u1 iz th mb mn mpt mbg mwr mwk mlf men), (rf_RW ct 0 mw 958 f1_8)] ++ ws_7) := hD
  refine lv_aload_n hx hb dX11_watches_14 rfl (lv_at hl 0 rfl) ?_
  refine lv_iload_n hx hb dX11_watches_15 rfl (lv_at hl 1 rfl) ?_
  refine ty_ki (wr := []) (wc := ([(rf_MO mo mw ma mf m0 m1 mu mv u0 u1 iz th mb mn mpt mbg mwr mwk mlf men), (rf_RW ct 0 mw 958 f1_8)] ++ ws_7)) (va_runV (As := [.int p1]) (rest := []) ⟨hx, hb, hml, hown, hts⟩ (m_X11_reasonNow l D ct S ws_7 ph xx mo mw ma mf m0 m1 mu mv u0 u1 iz mb th mn mpt mbg mwr mwk mlf men f1_8 G (-1) p1 _ hT h_mu h_mv h_u0 h_u1 hph hy1 hR_13 hc ho_15) (cm_V 1 hts kc_X11_reasonNow ki_RX11 kl_RX11_294 kv_X11_reasonNow kx_X11_reasonNow kd_X11_reasonNow ⟨Nat.le_of_ble_eq_true rfl, Nat.le_of_ble_eq_true rfl⟩) (ty_preE (wr := []) (wc := ([(rf_MO mo mw ma mf m0 m1 mu mv u0 u1 iz th mb mn mpt mbg mwr mwk mlf men), (rf_RW ct 0 mw 958 f1_8)] ++ ws_7)) (ci := 11) (q0 := 0) hP hK hD hS hA hX rfl rfl) rfl rfl hl.1 rfl (lv_room (Nat.le_of_ble_eq_true rfl)) dX11_watches_16 ⟨Nat.le_of_ble_eq_true rfl, Nat.le_of_ble_eq_true rfl⟩) hP hD hS hA (fun r_16 u H locs hw_17 hP hD hS => ?_)
  obtain ⟨ws_18, rfl⟩ : ∃ z, z = u := ⟨_, rfl⟩
  have hT := hw_17
  have hP : va_P D vwCl ([(rf_MO mo mw ma mf m0 m1 mu mv u0 u1 iz th mb mn mpt mbg mwr mwk mlf men), (rf_RW ct 0 mw 958 f1_8)] ++ ws_18) H := hP
  have hD : va_D A ([(rf_MO mo mw ma mf m0 m1 mu mv u0 u1 iz th mb mn mpt mbg mwr mwk mlf men), (rf_RW ct 0 mw 958 f1_8)] ++ ws_18) := hD
  refine lv_istore_n (lv' := [(2, .int r_16), (0, .ref mo), (1, .int p1)]) hx hb dX11_watches_19 rfl hl (by decide) rfl (fun ls hl => ?_)
  refine lv_iload_n hx hb dX11_watches_20 rfl (lv_at hl 0 rfl) ?_
  refine lv_if_le (tgt := 49) hx hb dX11_watches_21 (by decide) (fun hc_19 => ?_) (fun hc_19 => ?_)
  · refine lv_aload_n hx hb dX11_watches_49 rfl (lv_at hl 1 rfl) ?_
    refine lv_iload_n hx hb dX11_watches_50 rfl (lv_at hl 2 rfl) ?_
    refine ty_ki (wr := []) (wc := ([(rf_MO mo mw ma mf m0 m1 mu mv u0 u1 iz th mb mn mpt mbg mwr mwk mlf men), (rf_RW ct 0 mw 958 f1_8)] ++ ws_18)) (va_runV (As := [.int p1]) (rest := []) ⟨hx, hb, hml, hown, hts⟩ (m_X11_isOver l D ct S ws_18 ph xx mo mw ma mf m0 m1 mu mv u0 u1 iz mb th mn mpt mbg mwr mwk mlf men f1_8 G (-1) p1 _ hT h_mu h_mv h_u0 h_u1 hph hy1 hR_13 hc ho_15) (cm_V 1 hts kc_X11_isOver ki_RX11 kl_RX11_258 kv_X11_isOver kx_X11_isOver kd_X11_isOver ⟨Nat.le_of_ble_eq_true rfl, Nat.le_of_ble_eq_true rfl⟩) (ty_preE (wr := []) (wc := ([(rf_MO mo mw ma mf m0 m1 mu mv u0 u1 iz th mb mn mpt mbg mwr mwk mlf men), (rf_RW ct 0 mw 958 f1_8)] ++ ws_18)) (ci := 11) (q0 := 0) hP hK hD hS hA hX rfl rfl) rfl rfl hl.1 rfl (lv_room (Nat.le_of_ble_eq_true rfl)) dX11_watches_51 ⟨Nat.le_of_ble_eq_true rfl, Nat.le_of_ble_eq_true rfl⟩) hP hD hS hA (fun r_20 u H locs hw_21 hP hD hS => ?_)
    obtain ⟨ws_22, rfl⟩ : ∃ z, z = u := ⟨_, rfl⟩
    have hT := hw_21
    have hP : va_P D vwCl ([(rf_MO mo mw ma mf m0 m1 mu mv u0 u1 iz th mb mn mpt mbg mwr mwk mlf men), (rf_RW ct 0 mw 958 f1_8)] ++ ws_22) H := hP
    have hD : va_D A ([(rf_MO mo mw ma mf m0 m1 mu mv u0 u1 iz th mb mn mpt mbg mwr mwk mlf men), (rf_RW ct 0 mw 958 f1_8)] ++ ws_22) := hD
    refine lv_if_eq (tgt := 97) hx hb dX11_watches_54 (by decide) (fun hc_23 => ?_) (fun hc_23 => ?_)
    · exact W.vret hx hb hr (fun t ht hW => ⟨⟨(ws_22, men, f1_8), rfl, ⟨hT, ⟨hD_12, hR_13⟩⟩, by rw [ht]; exact hP, by rw [hAe]; exact hD⟩, hS.F ht⟩) hS.2.2 dX11_watches_97
    · refine lv_aload_n hx hb dX11_watches_57 rfl (lv_at hl 1 rfl) ?_
      refine lv_iload_n hx hb dX11_watches_58 rfl (lv_at hl 2 rfl) ?_
      refine ty_kv (wr := []) (wc := ([(rf_MO mo mw ma mf m0 m1 mu mv u0 u1 iz th mb mn mpt mbg mwr mwk mlf men), (rf_RW ct 0 mw 958 f1_8)] ++ ws_22)) (va_runV (As := [.int p1]) (rest := []) ⟨hx, hb, hml, hown, hts⟩ (m_X11_ends l D ct S ws_22 ph xx mo mw ma mf m0 m1 mu mv u0 u1 iz mb th mn mpt mbg mwr mwk mlf men f1_8 G (-1) p1 _ hT h_mu h_mv h_u0 h_u1 hph hy1 hy11 hR_13 hc ho_15) (cm_V 1 hts kc_X11_ends ki_RX11 kl_RX11_297 kv_X11_ends kx_X11_ends kd_X11_ends ⟨Nat.le_of_ble_eq_true rfl, Nat.le_of_ble_eq_true rfl⟩) (ty_preE (wr := []) (wc := ([(rf_MO mo mw ma mf m0 m1 mu mv u0 u1 iz th mb mn mpt mbg mwr mwk mlf men), (rf_RW ct 0 mw 958 f1_8)] ++ ws_22)) (ci := 11) (q0 := 0) hP hK hD hS hA hX rfl rfl) rfl rfl hl.1 rfl (lv_room (Nat.le_of_ble_eq_true rfl)) dX11_watches_59 ⟨Nat.le_of_ble_eq_true rfl, Nat.le_of_ble_eq_true rfl⟩) hP hD hS hA (fun u H locs hw_25 hP hD hS => ?_)
      obtain ⟨ws_26, f1_27⟩ := u
      obtain ⟨hT, hp_28⟩ := hw_25
      have hp_28 : rf_d (f1_8 8) f1_8 f1_27 ∧ rf_R G (-1) f1_27 ∧ rf_sm f1_8 f1_27 := hp_28
      obtain ⟨hd_29, hq_30⟩ := hp_28
      have hD_31 := rf_dt hD_12 hd_29
      have hR_32 := hq_30.1
      have hM_33 := rf_smt hM_14 hq_30.2
      have ho_34 := rf_ons hR_13 hc hq_30.2 ho_15
      have hP : va_P D vwCl ([(rf_MO mo mw ma mf m0 m1 mu mv u0 u1 iz th mb mn mpt mbg mwr mwk mlf men), (rf_RW ct 0 mw 958 f1_27)] ++ ws_26) H := hP
      have hD : va_D A ([(rf_MO mo mw ma mf m0 m1 mu mv u0 u1 iz th mb mn mpt mbg mwr mwk mlf men), (rf_RW ct 0 mw 958 f1_27)] ++ ws_26) := hD
      refine lv_aload_n hx hb dX11_watches_62 rfl (lv_at hl 1 rfl) ?_
      refine lv_dup hx hb dX11_watches_63 rfl ?_
      refine va_get (v := .int men) (D := D) (ci := 11) (C := RX11) (T := TX11) (N := 19) hx hb hts in_X11 hown hK hP 0 rfl rfl 18 (by decide) (hts _ kl_RX11_300) (fun _ h9 => h9) rfl dX11_watches_64 ?_
      refine lv_iconst (v := 1) hx hb dX11_watches_67 (by decide) ?_
      refine lv_iadd hx hb dX11_watches_68 ?_
      refine lv_topi (fun x_35 _ => ?_)
      refine va_put (v := .int x_35) (ty := .int) (D := D) (ci := 11) (C := RX11) (T := TX11) (N := 19) hx hb hts in_X11 tyX11 tyX11_ok nmX11 hown hK hP hD hS 0 rfl rfl 18 (by decide) (hts _ kl_RX11_300) (fun _ h9 => h9) rfl (by decide +kernel) rfl rfl (Nat.le_of_ble_eq_true rfl) dX11_watches_69 (fun H locs hP hD hS => ?_)
      have hP : va_P D vwCl ([(rf_MO mo mw ma mf m0 m1 mu mv u0 u1 iz th mb mn mpt mbg mwr mwk mlf x_35), (rf_RW ct 0 mw 958 f1_27)] ++ ws_26) H := hP
      have hD : va_D A ([(rf_MO mo mw ma mf m0 m1 mu mv u0 u1 iz th mb mn mpt mbg mwr mwk mlf x_35), (rf_RW ct 0 mw 958 f1_27)] ++ ws_26) := hD
      refine lv_aload_n hx hb dX11_watches_72 rfl (lv_at hl 1 rfl) ?_
      refine lv_iload_n hx hb dX11_watches_73 rfl (lv_at hl 2 rfl) ?_
      refine lv_iconst (v := 1) hx hb dX11_watches_74 (by decide) ?_
      refine lv_aload_n hx hb dX11_watches_75 rfl (lv_at hl 1 rfl) ?_
      refine lv_iload_n hx hb dX11_watches_76 rfl (lv_at hl 2 rfl) ?_
      refine lv_iconst (v := 2) hx hb dX11_watches_77 (by decide) ?_
      refine ty_ki (wr := []) (wc := ([(rf_MO mo mw ma mf m0 m1 mu mv u0 u1 iz th mb mn mpt mbg mwr mwk mlf x_35), (rf_RW ct 0 mw 958 f1_27)] ++ ws_26)) (va_runV (As := [.int p1, .int 2]) (rest := [.int 1, .int p1, .ref mo]) ⟨hx, hb, hml, hown, hts⟩ (m_of_2 l D ct S ws_26 ph xx mo mw ma mf m0 m1 mu mv u0 u1 iz mb th mn mpt mbg mwr mwk mlf x_35 f1_27 G (-1) p1 _ hT h_mu h_mv h_u0 h_u1 hph hy1 hR_32 hc) (cm_V 2 hts kc_X11_of ki_RX11 kl_RX11_209 kv_X11_of kx_X11_of kd_X11_of ⟨Nat.le_of_ble_eq_true rfl, Nat.le_of_ble_eq_true rfl⟩) (ty_preE (wr := []) (wc := ([(rf_MO mo mw ma mf m0 m1 mu mv u0 u1 iz th mb mn mpt mbg mwr mwk mlf x_35), (rf_RW ct 0 mw 958 f1_27)] ++ ws_26)) (ci := 11) (q0 := 0) hP hK hD hS hA hX rfl rfl) rfl rfl hl.1 rfl (lv_room (Nat.le_of_ble_eq_true rfl)) dX11_watches_78 ⟨Nat.le_of_ble_eq_true rfl, Nat.le_of_ble_eq_true rfl⟩) hP hD hS hA (fun r_36 u H locs hw_37 hP hD hS => ?_)
      obtain ⟨ws_38, rfl⟩ : ∃ z, z = u := ⟨_, rfl⟩
      obtain ⟨hT, rfl⟩ := hw_37
      have hP : va_P D vwCl ([(rf_MO mo mw ma mf m0 m1 mu mv u0 u1 iz th mb mn mpt mbg mwr mwk mlf x_35), (rf_RW ct 0 mw 958 f1_27)] ++ ws_38) H := hP
      have hD : va_D A ([(rf_MO mo mw ma mf m0 m1 mu mv u0 u1 iz th mb mn mpt mbg mwr mwk mlf x_35), (rf_RW ct 0 mw 958 f1_27)] ++ ws_38) := hD
      refine ty_kv (wr := []) (wc := ([(rf_MO mo mw ma mf m0 m1 mu mv u0 u1 iz th mb mn mpt mbg mwr mwk mlf x_35), (rf_RW ct 0 mw 958 f1_27)] ++ ws_38)) (va_runV (As := [.int p1, .int 1, .int (rf_of f1_27 p1 2)]) (rest := []) ⟨hx, hb, hml, hown, hts⟩ (m_X11_notes l D ct S ws_38 ph xx mo mw ma mf m0 m1 mu mv u0 u1 iz mb th mn mpt mbg mwr mwk mlf x_35 f1_27 G (-1) p1 (1 : Int32) (rf_of f1_27 p1 2) _ hT h_mu h_mv h_u0 h_u1 hph hy1 hR_32) (cm_V 3 hts kc_X11_notes ki_RX11 kl_RX11_282 kv_X11_notes kx_X11_notes kd_X11_notes ⟨Nat.le_of_ble_eq_true rfl, Nat.le_of_ble_eq_true rfl⟩) (ty_preE (wr := []) (wc := ([(rf_MO mo mw ma mf m0 m1 mu mv u0 u1 iz th mb mn mpt mbg mwr mwk mlf x_35), (rf_RW ct 0 mw 958 f1_27)] ++ ws_38)) (ci := 11) (q0 := 0) hP hK hD hS hA hX rfl rfl) rfl rfl hl.1 rfl (lv_room (Nat.le_of_ble_eq_true rfl)) dX11_watches_81 ⟨Nat.le_of_ble_eq_true rfl, Nat.le_of_ble_eq_true rfl⟩) hP hD hS hA (fun u H locs hw_40 hP hD hS => ?_)
      obtain ⟨ws_41, f1_42⟩ := u
      obtain ⟨hT, hp_43⟩ := hw_40
      have hp_43 : rf_d (f1_27 8) f1_27 f1_42 ∧ rf_R G (-1) f1_42 ∧ rf_sm f1_27 f1_42 := hp_43
      obtain ⟨hd_44, hq_45⟩ := hp_43
      have hD_46 := rf_dt hD_31 hd_44
      have hR_47 := hq_45.1
      have hM_48 := rf_smt hM_33 hq_45.2
      have ho_49 := rf_ons hR_32 hc hq_45.2 ho_34
      have hP : va_P D vwCl ([(rf_MO mo mw ma mf m0 m1 mu mv u0 u1 iz th mb mn mpt mbg mwr mwk mlf x_35), (rf_RW ct 0 mw 958 f1_42)] ++ ws_41) H := hP
      have hD : va_D A ([(rf_MO mo mw ma mf m0 m1 mu mv u0 u1 iz th mb mn mpt mbg mwr mwk mlf x_35), (rf_RW ct 0 mw 958 f1_42)] ++ ws_41) := hD
      refine lv_aload_n hx hb dX11_watches_84 rfl (lv_at hl 1 rfl) ?_
      refine lv_iload_n hx hb dX11_watches_85 rfl (lv_at hl 2 rfl) ?_
      refine lv_aload_n hx hb dX11_watches_86 rfl (lv_at hl 1 rfl) ?_
      refine lv_iload_n hx hb dX11_watches_87 rfl (lv_at hl 2 rfl) ?_
      refine lv_iconst (v := 2) hx hb dX11_watches_88 (by decide) ?_
      refine ty_ki (wr := []) (wc := ([(rf_MO mo mw ma mf m0 m1 mu mv u0 u1 iz th mb mn mpt mbg mwr mwk mlf x_35), (rf_RW ct 0 mw 958 f1_42)] ++ ws_41)) (va_runV (As := [.int p1, .int 2]) (rest := [.int p1, .ref mo]) ⟨hx, hb, hml, hown, hts⟩ (m_of_2 l D ct S ws_41 ph xx mo mw ma mf m0 m1 mu mv u0 u1 iz mb th mn mpt mbg mwr mwk mlf x_35 f1_42 G (-1) p1 _ hT h_mu h_mv h_u0 h_u1 hph hy1 hR_47 hc) (cm_V 2 hts kc_X11_of ki_RX11 kl_RX11_209 kv_X11_of kx_X11_of kd_X11_of ⟨Nat.le_of_ble_eq_true rfl, Nat.le_of_ble_eq_true rfl⟩) (ty_preE (wr := []) (wc := ([(rf_MO mo mw ma mf m0 m1 mu mv u0 u1 iz th mb mn mpt mbg mwr mwk mlf x_35), (rf_RW ct 0 mw 958 f1_42)] ++ ws_41)) (ci := 11) (q0 := 0) hP hK hD hS hA hX rfl rfl) rfl rfl hl.1 rfl (lv_room (Nat.le_of_ble_eq_true rfl)) dX11_watches_89 ⟨Nat.le_of_ble_eq_true rfl, Nat.le_of_ble_eq_true rfl⟩) hP hD hS hA (fun r_50 u H locs hw_51 hP hD hS => ?_)
      obtain ⟨ws_52, rfl⟩ : ∃ z, z = u := ⟨_, rfl⟩
      obtain ⟨hT, rfl⟩ := hw_51
      have hP : va_P D vwCl ([(rf_MO mo mw ma mf m0 m1 mu mv u0 u1 iz th mb mn mpt mbg mwr mwk mlf x_35), (rf_RW ct 0 mw 958 f1_42)] ++ ws_52) H := hP
      have hD : va_D A ([(rf_MO mo mw ma mf m0 m1 mu mv u0 u1 iz th mb mn mpt mbg mwr mwk mlf x_35), (rf_RW ct 0 mw 958 f1_42)] ++ ws_52) := hD
      refine lv_iconst (v := 1) hx hb dX11_watches_92 (by decide) ?_
      refine lv_iadd hx hb dX11_watches_93 ?_
      refine ty_kv (wr := []) (wc := ([(rf_MO mo mw ma mf m0 m1 mu mv u0 u1 iz th mb mn mpt mbg mwr mwk mlf x_35), (rf_RW ct 0 mw 958 f1_42)] ++ ws_52)) (va_runV (As := [.int p1, .int ((rf_of f1_42 p1 2) + 1)]) (rest := []) ⟨hx, hb, hml, hown, hts⟩ (m_comes l D ct S ws_52 ph xx mo mw ma mf m0 m1 mu mv u0 u1 iz mb th mn mpt mbg mwr mwk mlf x_35 f1_42 G (-1) p1 ((rf_of f1_42 p1 2) + 1) _ hT h_mu h_mv h_u0 h_u1 hph hy1 hy11 hR_47 hc (Or.inl rfl) ho_49.1 (rf_on1 hR_47 ho_49)) (cm_V 2 hts kc_X11_comes ki_RX11 kl_RX11_291 kv_X11_comes kx_X11_comes kd_X11_comes ⟨Nat.le_of_ble_eq_true rfl, Nat.le_of_ble_eq_true rfl⟩) (ty_preE (wr := []) (wc := ([(rf_MO mo mw ma mf m0 m1 mu mv u0 u1 iz th mb mn mpt mbg mwr mwk mlf x_35), (rf_RW ct 0 mw 958 f1_42)] ++ ws_52)) (ci := 11) (q0 := 0) hP hK hD hS hA hX rfl rfl) rfl rfl hl.1 rfl (lv_room (Nat.le_of_ble_eq_true rfl)) dX11_watches_94 ⟨Nat.le_of_ble_eq_true rfl, Nat.le_of_ble_eq_true rfl⟩) hP hD hS hA (fun u H locs hw_54 hP hD hS => ?_)
      obtain ⟨ws_55, f1_56⟩ := u
      obtain ⟨hT, hp_57⟩ := hw_54
      have hp_57 : rf_d (f1_42 8) f1_42 f1_56 ∧ rf_R G (-1) f1_56 := hp_57
      obtain ⟨hd_58, hq_59⟩ := hp_57
      have hD_60 := rf_dt hD_46 hd_58
      have hR_61 := hq_59
      have hP : va_P D vwCl ([(rf_MO mo mw ma mf m0 m1 mu mv u0 u1 iz th mb mn mpt mbg mwr mwk mlf x_35), (rf_RW ct 0 mw 958 f1_56)] ++ ws_55) H := hP
      have hD : va_D A ([(rf_MO mo mw ma mf m0 m1 mu mv u0 u1 iz th mb mn mpt mbg mwr mwk mlf x_35), (rf_RW ct 0 mw 958 f1_56)] ++ ws_55) := hD
      exact W.vret hx hb hr (fun t ht hW => ⟨⟨(ws_55, x_35, f1_56), rfl, ⟨hT, ⟨hD_60, hR_61⟩⟩, by rw [ht]; exact hP, by rw [hAe]; exact hD⟩, hS.F ht⟩) hS.2.2 dX11_watches_97
  · refine lv_aload_n hx hb dX11_watches_24 rfl (lv_at hl 1 rfl) ?_
    refine lv_iload_n hx hb dX11_watches_25 rfl (lv_at hl 2 rfl) ?_
    refine lv_iconst (v := 0) hx hb dX11_watches_26 (by decide) ?_
    refine lv_iconst (v := 4) hx hb dX11_watches_27 (by decide) ?_
    refine ty_kv (wr := []) (wc := ([(rf_MO mo mw ma mf m0 m1 mu mv u0 u1 iz th mb mn mpt mbg mwr mwk mlf men), (rf_RW ct 0 mw 958 f1_8)] ++ ws_18)) (va_runV (As := [.int p1, .int 0, .int 4]) (rest := []) ⟨hx, hb, hml, hown, hts⟩ (m_put_0 l D ct S ws_18 ph xx mo mw ma mf m0 m1 mu mv u0 u1 iz mb th mn mpt mbg mwr mwk mlf men f1_8 G (-1) p1 (4 : Int32) _ hT h_mu h_mv h_u0 h_u1 hph hy1 hR_13 hc (Or.inl rfl)) (cm_V 3 hts kc_X11_put ki_RX11 kl_RX11_234 kv_X11_put kx_X11_put kd_X11_put ⟨Nat.le_of_ble_eq_true rfl, Nat.le_of_ble_eq_true rfl⟩) (ty_preE (wr := []) (wc := ([(rf_MO mo mw ma mf m0 m1 mu mv u0 u1 iz th mb mn mpt mbg mwr mwk mlf men), (rf_RW ct 0 mw 958 f1_8)] ++ ws_18)) (ci := 11) (q0 := 0) hP hK hD hS hA hX rfl rfl) rfl rfl hl.1 rfl (lv_room (Nat.le_of_ble_eq_true rfl)) dX11_watches_28 ⟨Nat.le_of_ble_eq_true rfl, Nat.le_of_ble_eq_true rfl⟩) hP hD hS hA (fun u H locs hw_64 hP hD hS => ?_)
    obtain ⟨ws_65, f1_66⟩ := u
    obtain ⟨hT, hp_67⟩ := hw_64
    have hp_67 : rf_d (f1_8 8) f1_8 f1_66 ∧ rf_R G p1.toInt f1_66 ∧ f1_66 = upd f1_8 (244 + 54 * p1.toInt.toNat + 0) (4 : Int32) := hp_67
    obtain ⟨hd_68, hq_69⟩ := hp_67
    have hD_70 := rf_dt hD_12 hd_68
    have hR_71 := hq_69.1
    have hP : va_P D vwCl ([(rf_MO mo mw ma mf m0 m1 mu mv u0 u1 iz th mb mn mpt mbg mwr mwk mlf men), (rf_RW ct 0 mw 958 f1_66)] ++ ws_65) H := hP
    have hD : va_D A ([(rf_MO mo mw ma mf m0 m1 mu mv u0 u1 iz th mb mn mpt mbg mwr mwk mlf men), (rf_RW ct 0 mw 958 f1_66)] ++ ws_65) := hD
    have pg_73 : rf_of f1_66 p1 0 = 4 := by rw [hq_69.2]; exact rf_eq
    refine lv_aload_n hx hb dX11_watches_31 rfl (lv_at hl 1 rfl) ?_
    refine lv_iload_n hx hb dX11_watches_32 rfl (lv_at hl 2 rfl) ?_
    refine lv_bipush (v := 10) hx hb dX11_watches_33 (by decide) ?_
    refine lv_iload_n hx hb dX11_watches_35 rfl (lv_at hl 0 rfl) ?_
    refine ty_kv (wr := []) (wc := ([(rf_MO mo mw ma mf m0 m1 mu mv u0 u1 iz th mb mn mpt mbg mwr mwk mlf men), (rf_RW ct 0 mw 958 f1_66)] ++ ws_65)) (va_runV (As := [.int p1, .int 10, .int r_16]) (rest := []) ⟨hx, hb, hml, hown, hts⟩ (m_put_10 l D ct S ws_65 ph xx mo mw ma mf m0 m1 mu mv u0 u1 iz mb th mn mpt mbg mwr mwk mlf men f1_66 G p1.toInt p1 r_16 _ hT h_mu h_mv h_u0 h_u1 hph hy1 hR_71 hc) (cm_V 3 hts kc_X11_put ki_RX11 kl_RX11_234 kv_X11_put kx_X11_put kd_X11_put ⟨Nat.le_of_ble_eq_true rfl, Nat.le_of_ble_eq_true rfl⟩) (ty_preE (wr := []) (wc := ([(rf_MO mo mw ma mf m0 m1 mu mv u0 u1 iz th mb mn mpt mbg mwr mwk mlf men), (rf_RW ct 0 mw 958 f1_66)] ++ ws_65)) (ci := 11) (q0 := 0) hP hK hD hS hA hX rfl rfl) rfl rfl hl.1 rfl (lv_room (Nat.le_of_ble_eq_true rfl)) dX11_watches_36 ⟨Nat.le_of_ble_eq_true rfl, Nat.le_of_ble_eq_true rfl⟩) hP hD hS hA (fun u H locs hw_75 hP hD hS => ?_)
    obtain ⟨ws_76, f1_77⟩ := u
    obtain ⟨hT, hp_78⟩ := hw_75
    have hp_78 : rf_d (f1_66 8) f1_66 f1_77 ∧ rf_R G p1.toInt f1_77 ∧ rf_sm f1_66 f1_77 ∧ f1_77 = upd f1_66 (244 + 54 * p1.toInt.toNat + 10) r_16 := hp_78
    obtain ⟨hd_79, hq_80⟩ := hp_78
    have hD_81 := rf_dt hD_70 hd_79
    have hR_82 := hq_80.1
    have pg_84 := (rf_smof (rf_c6 hR_71 hc) hq_80.2.1 (k := 0) (by decide)).trans pg_73
    have hP : va_P D vwCl ([(rf_MO mo mw ma mf m0 m1 mu mv u0 u1 iz th mb mn mpt mbg mwr mwk mlf men), (rf_RW ct 0 mw 958 f1_77)] ++ ws_76) H := hP
    have hD : va_D A ([(rf_MO mo mw ma mf m0 m1 mu mv u0 u1 iz th mb mn mpt mbg mwr mwk mlf men), (rf_RW ct 0 mw 958 f1_77)] ++ ws_76) := hD
    refine lv_aload_n hx hb dX11_watches_39 rfl (lv_at hl 1 rfl) ?_
    refine lv_iload_n hx hb dX11_watches_40 rfl (lv_at hl 2 rfl) ?_
    refine lv_iconst (v := 3) hx hb dX11_watches_41 (by decide) ?_
    refine lv_iload_n hx hb dX11_watches_42 rfl (lv_at hl 0 rfl) ?_
    refine ty_kv (wr := []) (wc := ([(rf_MO mo mw ma mf m0 m1 mu mv u0 u1 iz th mb mn mpt mbg mwr mwk mlf men), (rf_RW ct 0 mw 958 f1_77)] ++ ws_76)) (va_runV (As := [.int p1, .int 3, .int r_16]) (rest := []) ⟨hx, hb, hml, hown, hts⟩ (m_X11_notes l D ct S ws_76 ph xx mo mw ma mf m0 m1 mu mv u0 u1 iz mb th mn mpt mbg mwr mwk mlf men f1_77 G p1.toInt p1 (3 : Int32) r_16 _ hT h_mu h_mv h_u0 h_u1 hph hy1 hR_82) (cm_V 3 hts kc_X11_notes ki_RX11 kl_RX11_282 kv_X11_notes kx_X11_notes kd_X11_notes ⟨Nat.le_of_ble_eq_true rfl, Nat.le_of_ble_eq_true rfl⟩) (ty_preE (wr := []) (wc := ([(rf_MO mo mw ma mf m0 m1 mu mv u0 u1 iz th mb mn mpt mbg mwr mwk mlf men), (rf_RW ct 0 mw 958 f1_77)] ++ ws_76)) (ci := 11) (q0 := 0) hP hK hD hS hA hX rfl rfl) rfl rfl hl.1 rfl (lv_room (Nat.le_of_ble_eq_true rfl)) dX11_watches_43 ⟨Nat.le_of_ble_eq_true rfl, Nat.le_of_ble_eq_true rfl⟩) hP hD hS hA (fun u H locs hw_86 hP hD hS => ?_)
    obtain ⟨ws_87, f1_88⟩ := u
    obtain ⟨hT, hp_89⟩ := hw_86
    have hp_89 : rf_d (f1_77 8) f1_77 f1_88 ∧ rf_R G p1.toInt f1_88 ∧ rf_sm f1_77 f1_88 := hp_89
    obtain ⟨hd_90, hq_91⟩ := hp_89
    have hD_92 := rf_dt hD_81 hd_90
    have hR_93 := hq_91.1
    have pg_95 := (rf_smof (rf_c6 hR_82 hc) hq_91.2 (k := 0) (by decide)).trans pg_84
    have hP : va_P D vwCl ([(rf_MO mo mw ma mf m0 m1 mu mv u0 u1 iz th mb mn mpt mbg mwr mwk mlf men), (rf_RW ct 0 mw 958 f1_88)] ++ ws_87) H := hP
    have hD : va_D A ([(rf_MO mo mw ma mf m0 m1 mu mv u0 u1 iz th mb mn mpt mbg mwr mwk mlf men), (rf_RW ct 0 mw 958 f1_88)] ++ ws_87) := hD
    refine lv_goto (tgt := 97) hx hb dX11_watches_46 (by decide) ?_
    have hR_96 := rf_back9 hc.1 hR_93 (Or.inr rfl) (rf_runno (by rw [pg_95]; decide) (by rw [pg_95]; decide))
    exact W.vret hx hb hr (fun t ht hW => ⟨⟨(ws_87, men, f1_88), rfl, ⟨hT, ⟨hD_92, hR_96⟩⟩, by rw [ht]; exact hP, by rw [hAe]; exact hD⟩, hS.F ht⟩) hS.2.2 dX11_watches_97
theorem dX11_goes_0 : decode cX11_goes 0 = .ok (.aload_n 0, 1) := by decide +kernel
theorem dX11_goes_1 : decode cX11_goes 1 = .ok (.iload_n 1, 1) := by decide +kernel
theorem dX11_goes_2 : decode cX11_goes 2 = .ok (.iconst 5, 1) := by decide +kernel
theorem dX11_goes_3 : decode cX11_goes 3 = .ok (.invokevirtual 209, 3) := by decide +kernel
theorem dX11_goes_6 : decode cX11_goes 6 = .ok (.istore_n 2, 1) := by decide +kernel
theorem dX11_goes_7 : decode cX11_goes 7 = .ok (.aload_n 0, 1) := by decide +kernel
theorem dX11_goes_8 : decode cX11_goes 8 = .ok (.iload_n 1, 1) := by decide +kernel
theorem dX11_goes_9 : decode cX11_goes 9 = .ok (.iconst 4, 1) := by decide +kernel
theorem dX11_goes_10 : decode cX11_goes 10 = .ok (.invokevirtual 209, 3) := by decide +kernel
theorem dX11_goes_13 : decode cX11_goes 13 = .ok (.istore_n 3, 1) := by decide +kernel
theorem dX11_goes_14 : decode cX11_goes 14 = .ok (.aload_n 0, 1) := by decide +kernel
theorem dX11_goes_15 : decode cX11_goes 15 = .ok (.iload_n 1, 1) := by decide +kernel
theorem dX11_goes_16 : decode cX11_goes 16 = .ok (.aload_n 0, 1) := by decide +kernel
theorem dX11_goes_17 : decode cX11_goes 17 = .ok (.iload_n 1, 1) := by decide +kernel
theorem dX11_goes_18 : decode cX11_goes 18 = .ok (.invokevirtual 308, 3) := by decide +kernel
theorem dX11_goes_21 : decode cX11_goes 21 = .ok (.invokevirtual 311, 3) := by decide +kernel
theorem dX11_goes_24 : decode cX11_goes 24 = .ok (.bipush 44, 2) := by decide +kernel
theorem dX11_goes_26 : decode cX11_goes 26 = .ok (.bipush 9, 2) := by decide +kernel
theorem dX11_goes_28 : decode cX11_goes 28 = .ok (.aload_n 0, 1) := by decide +kernel
theorem dX11_goes_29 : decode cX11_goes 29 = .ok (.iload_n 1, 1) := by decide +kernel
theorem dX11_goes_30 : decode cX11_goes 30 = .ok (.invokevirtual 314, 3) := by decide +kernel
theorem dX11_goes_33 : decode cX11_goes 33 = .ok (.bipush 100, 2) := by decide +kernel
theorem dX11_goes_35 : decode cX11_goes 35 = .ok (.idiv, 1) := by decide +kernel
theorem dX11_goes_36 : decode cX11_goes 36 = .ok (.invokestatic 184, 3) := by decide +kernel
theorem dX11_goes_39 : decode cX11_goes 39 = .ok (.iadd, 1) := by decide +kernel
theorem dX11_goes_40 : decode cX11_goes 40 = .ok (.istore 4, 2) := by decide +kernel
theorem dX11_goes_42 : decode cX11_goes 42 = .ok (.aload_n 0, 1) := by decide +kernel
theorem dX11_goes_43 : decode cX11_goes 43 = .ok (.iload_n 1, 1) := by decide +kernel
theorem dX11_goes_44 : decode cX11_goes 44 = .ok (.iload 4, 2) := by decide +kernel
theorem dX11_goes_46 : decode cX11_goes 46 = .ok (.aload_n 0, 1) := by decide +kernel
theorem dX11_goes_47 : decode cX11_goes 47 = .ok (.iload_n 1, 1) := by decide +kernel
theorem dX11_goes_48 : decode cX11_goes 48 = .ok (.iload 4, 2) := by decide +kernel
theorem dX11_goes_50 : decode cX11_goes 50 = .ok (.invokevirtual 209, 3) := by decide +kernel
theorem dX11_goes_53 : decode cX11_goes 53 = .ok (.iconst 1, 1) := by decide +kernel
theorem dX11_goes_54 : decode cX11_goes 54 = .ok (.iadd, 1) := by decide +kernel
theorem dX11_goes_55 : decode cX11_goes 55 = .ok (.invokevirtual 234, 3) := by decide +kernel
theorem dX11_goes_58 : decode cX11_goes 58 = .ok (.aload_n 0, 1) := by decide +kernel
theorem dX11_goes_59 : decode cX11_goes 59 = .ok (.iload_n 1, 1) := by decide +kernel
theorem dX11_goes_60 : decode cX11_goes 60 = .ok (.iconst 0, 1) := by decide +kernel
theorem dX11_goes_61 : decode cX11_goes 61 = .ok (.invokevirtual 209, 3) := by decide +kernel
theorem dX11_goes_64 : decode cX11_goes 64 = .ok (.iconst 1, 1) := by decide +kernel
theorem dX11_goes_65 : decode cX11_goes 65 = .ok (.if_icmp .eq 12, 3) := by decide +kernel
theorem dX11_goes_68 : decode cX11_goes 68 = .ok (.aload_n 0, 1) := by decide +kernel
theorem dX11_goes_69 : decode cX11_goes 69 = .ok (.iload_n 1, 1) := by decide +kernel
theorem dX11_goes_70 : decode cX11_goes 70 = .ok (.bipush 37, 2) := by decide +kernel
theorem dX11_goes_72 : decode cX11_goes 72 = .ok (.iconst 0, 1) := by decide +kernel
theorem dX11_goes_73 : decode cX11_goes 73 = .ok (.invokevirtual 234, 3) := by decide +kernel
theorem dX11_goes_76 : decode cX11_goes 76 = .ok (.return_, 1) := by decide +kernel
theorem dX11_goes_77 : decode cX11_goes 77 = .ok (.aload_n 0, 1) := by decide +kernel
theorem dX11_goes_78 : decode cX11_goes 78 = .ok (.iload_n 1, 1) := by decide +kernel
theorem dX11_goes_79 : decode cX11_goes 79 = .ok (.iconst 4, 1) := by decide +kernel
theorem dX11_goes_80 : decode cX11_goes 80 = .ok (.invokevirtual 209, 3) := by decide +kernel
theorem dX11_goes_83 : decode cX11_goes 83 = .ok (.iload_n 3, 1) := by decide +kernel
theorem dX11_goes_84 : decode cX11_goes 84 = .ok (.isub, 1) := by decide +kernel
theorem dX11_goes_85 : decode cX11_goes 85 = .ok (.istore 5, 2) := by decide +kernel
theorem dX11_goes_87 : decode cX11_goes 87 = .ok (.aload_n 0, 1) := by decide +kernel
theorem dX11_goes_88 : decode cX11_goes 88 = .ok (.iload_n 1, 1) := by decide +kernel
theorem dX11_goes_89 : decode cX11_goes 89 = .ok (.iconst 3, 1) := by decide +kernel
theorem dX11_goes_90 : decode cX11_goes 90 = .ok (.invokevirtual 209, 3) := by decide +kernel
theorem dX11_goes_93 : decode cX11_goes 93 = .ok (.ifCond .ne 30, 3) := by decide +kernel
theorem dX11_goes_96 : decode cX11_goes 96 = .ok (.iload 5, 2) := by decide +kernel
theorem dX11_goes_98 : decode cX11_goes 98 = .ok (.ifCond .eq 25, 3) := by decide +kernel
theorem dX11_goes_101 : decode cX11_goes 101 = .ok (.aload_n 0, 1) := by decide +kernel
theorem dX11_goes_102 : decode cX11_goes 102 = .ok (.iload_n 1, 1) := by decide +kernel
theorem dX11_goes_103 : decode cX11_goes 103 = .ok (.bipush 38, 2) := by decide +kernel
theorem dX11_goes_105 : decode cX11_goes 105 = .ok (.aload_n 0, 1) := by decide +kernel
theorem dX11_goes_106 : decode cX11_goes 106 = .ok (.iload_n 1, 1) := by decide +kernel
theorem dX11_goes_107 : decode cX11_goes 107 = .ok (.iconst 5, 1) := by decide +kernel
theorem dX11_goes_108 : decode cX11_goes 108 = .ok (.invokevirtual 209, 3) := by decide +kernel
theorem dX11_goes_111 : decode cX11_goes 111 = .ok (.iload_n 2, 1) := by decide +kernel
theorem dX11_goes_112 : decode cX11_goes 112 = .ok (.isub, 1) := by decide +kernel
theorem dX11_goes_113 : decode cX11_goes 113 = .ok (.sipush 1000, 3) := by decide +kernel
theorem dX11_goes_116 : decode cX11_goes 116 = .ok (.imul, 1) := by decide +kernel
theorem dX11_goes_117 : decode cX11_goes 117 = .ok (.iload 5, 2) := by decide +kernel
theorem dX11_goes_119 : decode cX11_goes 119 = .ok (.idiv, 1) := by decide +kernel
theorem dX11_goes_120 : decode cX11_goes 120 = .ok (.invokevirtual 234, 3) := by decide +kernel
theorem dX11_goes_123 : decode cX11_goes 123 = .ok (.aload_n 0, 1) := by decide +kernel
theorem dX11_goes_124 : decode cX11_goes 124 = .ok (.iload_n 1, 1) := by decide +kernel
theorem dX11_goes_125 : decode cX11_goes 125 = .ok (.invokevirtual 317, 3) := by decide +kernel
theorem dX11_goes_128 : decode cX11_goes 128 = .ok (.aload_n 0, 1) := by decide +kernel
theorem dX11_goes_129 : decode cX11_goes 129 = .ok (.iload_n 1, 1) := by decide +kernel
theorem dX11_goes_130 : decode cX11_goes 130 = .ok (.invokevirtual 320, 3) := by decide +kernel
theorem dX11_goes_133 : decode cX11_goes 133 = .ok (.return_, 1) := by decide +kernel
set_option maxRecDepth 100000 in
set_option maxHeartbeats 4000000 in
theorem m_X11_goes (l : Launch) (D : va_G) (ct : Nat → ClassId) (S : ty_S) (ws : va_W) (ph : va_W → Prop) (xx : Nat → Nat → Nat → Prop) (mo : Nat) (mw : Nat) (ma : Nat) (mf : Nat) (m0 : Nat) (m1 : Nat) (mu : Nat) (mv : Nat) (u0 : Nat) (u1 : Nat) (iz : Nat) (mb : Nat) (th : Int32) (mn : Int32) (mpt : Int32) (mbg : Int32) (mwr : Int32) (mwk : Int32) (mlf : Int32) (men : Int32) (f : Nat → Int32) (G : Nat → Int32) (p1 : Int32) (sz : Nat) (hT : ty_V ct S ph ws) (h_mu : S mu = some (.inr (1, 42))) (h_mv : S mv = some (.inr (1, 42))) (h_u0 : S u0 = some (.inr (1, 42))) (h_u1 : S u1 = some (.inr (1, 42))) (hph : ty_C ph xx) (hy1 : ty_y1 xx) (hy11 : ty_y0 xx 11) (hR : rf_R G (-1) f) (hc : 0 ≤ p1.toInt ∧ p1.toInt < (G 9).toInt) : Met l yX11_goes (ws_ yX11_goes cX11_goes 6 none) ({ frames := 6, cells := 0, slots := 0, locals := 140 } : Room) (va_Pc [.ref mo, .int p1] (cmP D ct sz ([(rf_MO mo mw ma mf m0 m1 mu mv u0 u1 iz th mb mn mpt mbg mwr mwk mlf men), (rf_RW ct 0 mw 958 f)] ++ ws))) (va_Qv (fun (u : va_W × Int32 × (Nat → Int32)) => match u with | (u9, men1, f1) => ty_V ct S ph u9 ∧ rf_d (f 8) f f1 ∧ rf_R G (-1) f1) (cmB D ([(rf_MO mo mw ma mf m0 m1 mu mv u0 u1 iz th mb mn mpt mbg mwr mwk mlf men), (rf_RW ct 0 mw 958 f)] ++ ws) sz (fun (u : va_W × Int32 × (Nat → Int32)) => match u with | (u9, men1, f1) => ([(rf_MO mo mw ma mf m0 m1 mu mv u0 u1 iz th mb mn mpt mbg mwr mwk mlf men1), (rf_RW ct 0 mw 958 f1)] ++ u9))) (va_A ([(rf_MO mo mw ma mf m0 m1 mu mv u0 u1 iz th mb mn mpt mbg mwr mwk mlf men), (rf_RW ct 0 mw 958 f)] ++ ws) sz)) 0 0 (va_A ([(rf_MO mo mw ma mf m0 m1 mu mv u0 u1 iz th mb mn mpt mbg mwr mwk mlf men), (rf_RW ct 0 mw 958 f)] ++ ws) sz) := by
  refine Met.ofW (cc := cX11_goes) (maxL := 6) (ret := none) (by decide) rfl ?_
  intro p e s m args below meth c s₁ B hml hv
  obtain ⟨rfl, hsz, hP, hK, hD0, hX⟩ := hv
  have hx := B.exec
  have hb := B.bytes
  have hr := B.returns
  have hts := ws_all (atoms_spec (ws := ws_ yX11_goes cX11_goes 6 none) B.pre)
  have hown : s.vm.findClass RX11 = some m.cls := findClass_of_methodNamed B.named
  have hlocks := B.notSynchronized
  subst hsz
  have hD := hD0.self (sz := s.heap.size)
  generalize hAe : va_A ([(rf_MO mo mw ma mf m0 m1 mu mv u0 u1 iz th mb mn mpt mbg mwr mwk mlf men), (rf_RW ct 0 mw 958 f)] ++ ws) s.heap.size = A at hD hX ⊢
  have hA : ∀ q : Nat, s.heap.size ≤ q → A q := fun q h => by rw [← hAe]; exact Or.inr h
  have hS : va_S A s.heap s.heap [] := va_S.rf
  have hl := lv_entry ([.ref mo, .int p1]) (n := 6) (Nat.le_of_ble_eq_true rfl)
  rw [lg_entry_eq]
  generalize (lg_sl ([.ref mo, .int p1]) ++ List.replicate (6 - (lg_sl ([.ref mo, .int p1])).length) Slot.unset).toArray = ls at hl ⊢
  have hl : lv_has ls 6 [(0, .ref mo), (1, .int p1)] := hl
  refine lv_aload_n hx hb dX11_goes_0 rfl (lv_at hl 0 rfl) ?_
  refine lv_iload_n hx hb dX11_goes_1 rfl (lv_at hl 1 rfl) ?_
  refine lv_iconst (v := 5) hx hb dX11_goes_2 (by decide) ?_
  refine ty_ki (wr := []) (wc := ([(rf_MO mo mw ma mf m0 m1 mu mv u0 u1 iz th mb mn mpt mbg mwr mwk mlf men), (rf_RW ct 0 mw 958 f)] ++ ws)) (va_runV (As := [.int p1, .int 5]) (rest := []) ⟨hx, hb, hml, hown, hts⟩ (m_of_5 l D ct S ws ph xx mo mw ma mf m0 m1 mu mv u0 u1 iz mb th mn mpt mbg mwr mwk mlf men f G (-1) p1 _ hT h_mu h_mv h_u0 h_u1 hph hy1 hR hc) (cm_V 2 hts kc_X11_of ki_RX11 kl_RX11_209 kv_X11_of kx_X11_of kd_X11_of ⟨Nat.le_of_ble_eq_true rfl, Nat.le_of_ble_eq_true rfl⟩) (ty_preE (wr := []) (wc := ([(rf_MO mo mw ma mf m0 m1 mu mv u0 u1 iz th mb mn mpt mbg mwr mwk mlf men), (rf_RW ct 0 mw 958 f)] ++ ws)) (ci := 11) (q0 := 0) hP hK hD hS hA hX rfl rfl) rfl rfl hl.1 rfl (lv_room (Nat.le_of_ble_eq_true rfl)) dX11_goes_3 ⟨Nat.le_of_ble_eq_true rfl, Nat.le_of_ble_eq_true rfl⟩) hP hD hS hA (fun r_1 u H locs hw_2 hP hD hS => ?_)
  obtain ⟨ws_3, rfl⟩ : ∃ z, z = u := ⟨_, rfl⟩
  obtain ⟨hT, rfl⟩ := hw_2
  have hP : va_P D vwCl ([(rf_MO mo mw ma mf m0 m1 mu mv u0 u1 iz th mb mn mpt mbg mwr mwk mlf men), (rf_RW ct 0 mw 958 f)] ++ ws_3) H := hP
  have hD : va_D A ([(rf_MO mo mw ma mf m0 m1 mu mv u0 u1 iz th mb mn mpt mbg mwr mwk mlf men), (rf_RW ct 0 mw 958 f)] ++ ws_3) := hD
  refine lv_istore_n (lv' := [(2, .int (rf_of f p1 5)), (0, .ref mo), (1, .int p1)]) hx hb dX11_goes_6 rfl hl (by decide) rfl (fun ls hl => ?_)
  refine lv_aload_n hx hb dX11_goes_7 rfl (lv_at hl 1 rfl) ?_
  refine lv_iload_n hx hb dX11_goes_8 rfl (lv_at hl 2 rfl) ?_
  refine lv_iconst (v := 4) hx hb dX11_goes_9 (by decide) ?_
  refine ty_ki (wr := []) (wc := ([(rf_MO mo mw ma mf m0 m1 mu mv u0 u1 iz th mb mn mpt mbg mwr mwk mlf men), (rf_RW ct 0 mw 958 f)] ++ ws_3)) (va_runV (As := [.int p1, .int 4]) (rest := []) ⟨hx, hb, hml, hown, hts⟩ (m_of_4 l D ct S ws_3 ph xx mo mw ma mf m0 m1 mu mv u0 u1 iz mb th mn mpt mbg mwr mwk mlf men f G (-1) p1 _ hT h_mu h_mv h_u0 h_u1 hph hy1 hR hc) (cm_V 2 hts kc_X11_of ki_RX11 kl_RX11_209 kv_X11_of kx_X11_of kd_X11_of ⟨Nat.le_of_ble_eq_true rfl, Nat.le_of_ble_eq_true rfl⟩) (ty_preE (wr := []) (wc := ([(rf_MO mo mw ma mf m0 m1 mu mv u0 u1 iz th mb mn mpt mbg mwr mwk mlf men), (rf_RW ct 0 mw 958 f)] ++ ws_3)) (ci := 11) (q0 := 0) hP hK hD hS hA hX rfl rfl) rfl rfl hl.1 rfl (lv_room (Nat.le_of_ble_eq_true rfl)) dX11_goes_10 ⟨Nat.le_of_ble_eq_true rfl, Nat.le_of_ble_eq_true rfl⟩) hP hD hS hA (fun r_4 u H locs hw_5 hP hD hS => ?_)
  obtain ⟨ws_6, rfl⟩ : ∃ z, z = u := ⟨_, rfl⟩
  obtain ⟨hT, rfl⟩ := hw_5
  have hP : va_P D vwCl ([(rf_MO mo mw ma mf m0 m1 mu mv u0 u1 iz th mb mn mpt mbg mwr mwk mlf men), (rf_RW ct 0 mw 958 f)] ++ ws_6) H := hP
  have hD : va_D A ([(rf_MO mo mw ma mf m0 m1 mu mv u0 u1 iz th mb mn mpt mbg mwr mwk mlf men), (rf_RW ct 0 mw 958 f)] ++ ws_6) := hD
  refine lv_istore_n (lv' := [(3, .int (rf_of f p1 4)), (2, .int (rf_of f p1 5)), (0, .ref mo), (1, .int p1)]) hx hb dX11_goes_13 rfl hl (by decide) rfl (fun ls hl => ?_)
  refine lv_aload_n hx hb dX11_goes_14 rfl (lv_at hl 2 rfl) ?_
  refine lv_iload_n hx hb dX11_goes_15 rfl (lv_at hl 3 rfl) ?_
  refine lv_aload_n hx hb dX11_goes_16 rfl (lv_at hl 2 rfl) ?_
  refine lv_iload_n hx hb dX11_goes_17 rfl (lv_at hl 3 rfl) ?_
  refine ty_ki (wr := []) (wc := ([(rf_MO mo mw ma mf m0 m1 mu mv u0 u1 iz th mb mn mpt mbg mwr mwk mlf men), (rf_RW ct 0 mw 958 f)] ++ ws_6)) (va_runV (As := [.int p1]) (rest := [.int p1, .ref mo]) ⟨hx, hb, hml, hown, hts⟩ (m_X11_currentOf l D ct S ws_6 ph xx mo mw ma mf m0 m1 mu mv u0 u1 iz mb th mn mpt mbg mwr mwk mlf men f G p1 _ hT h_mu h_mv h_u0 h_u1 hph hy1 hR hc) (cm_V 1 hts kc_X11_currentOf ki_RX11 kl_RX11_308 kv_X11_currentOf kx_X11_currentOf kd_X11_currentOf ⟨Nat.le_of_ble_eq_true rfl, Nat.le_of_ble_eq_true rfl⟩) (ty_preE (wr := []) (wc := ([(rf_MO mo mw ma mf m0 m1 mu mv u0 u1 iz th mb mn mpt mbg mwr mwk mlf men), (rf_RW ct 0 mw 958 f)] ++ ws_6)) (ci := 11) (q0 := 0) hP hK hD hS hA hX rfl rfl) rfl rfl hl.1 rfl (lv_room (Nat.le_of_ble_eq_true rfl)) dX11_goes_18 ⟨Nat.le_of_ble_eq_true rfl, Nat.le_of_ble_eq_true rfl⟩) hP hD hS hA (fun r_7 u H locs hw_8 hP hD hS => ?_)
  obtain ⟨ws_9, rfl⟩ : ∃ z, z = u := ⟨_, rfl⟩
  obtain ⟨hT, hp_10⟩ := hw_8
  have hp_10 : -((rf_of f p1 6).toInt) ≤ r_7.toInt ∧ r_7.toInt ≤ 5000 := hp_10
  have hP : va_P D vwCl ([(rf_MO mo mw ma mf m0 m1 mu mv u0 u1 iz th mb mn mpt mbg mwr mwk mlf men), (rf_RW ct 0 mw 958 f)] ++ ws_9) H := hP
  have hD : va_D A ([(rf_MO mo mw ma mf m0 m1 mu mv u0 u1 iz th mb mn mpt mbg mwr mwk mlf men), (rf_RW ct 0 mw 958 f)] ++ ws_9) := hD
  refine ty_kv (wr := []) (wc := ([(rf_MO mo mw ma mf m0 m1 mu mv u0 u1 iz th mb mn mpt mbg mwr mwk mlf men), (rf_RW ct 0 mw 958 f)] ++ ws_9)) (va_runV (As := [.int p1, .int r_7]) (rest := []) ⟨hx, hb, hml, hown, hts⟩ (m_X11_flows l D ct S ws_9 ph xx mo mw ma mf m0 m1 mu mv u0 u1 iz mb th mn mpt mbg mwr mwk mlf men f G (-1) p1 r_7 _ hT h_mu h_mv h_u0 h_u1 hph hy1 hy11 hR hc hp_10) (cm_V 2 hts kc_X11_flows ki_RX11 kl_RX11_311 kv_X11_flows kx_X11_flows kd_X11_flows ⟨Nat.le_of_ble_eq_true rfl, Nat.le_of_ble_eq_true rfl⟩) (ty_preE (wr := []) (wc := ([(rf_MO mo mw ma mf m0 m1 mu mv u0 u1 iz th mb mn mpt mbg mwr mwk mlf men), (rf_RW ct 0 mw 958 f)] ++ ws_9)) (ci := 11) (q0 := 0) hP hK hD hS hA hX rfl rfl) rfl rfl hl.1 rfl (lv_room (Nat.le_of_ble_eq_true rfl)) dX11_goes_21 ⟨Nat.le_of_ble_eq_true rfl, Nat.le_of_ble_eq_true rfl⟩) hP hD hS hA (fun u H locs hw_12 hP hD hS => ?_)
  obtain ⟨ws_13, f1_14⟩ := u
  obtain ⟨hT, hp_15⟩ := hw_12
  have hp_15 : rf_d (f 8) f f1_14 ∧ rf_R G (-1) f1_14 ∧ rf_sm f f1_14 := hp_15
  obtain ⟨hd_16, hq_17⟩ := hp_15
  have hD_18 := rf_dt (rf_dr f) hd_16
  have hR_19 := hq_17.1
  have hM_20 := rf_smt (rf_smr f) hq_17.2
  have hP : va_P D vwCl ([(rf_MO mo mw ma mf m0 m1 mu mv u0 u1 iz th mb mn mpt mbg mwr mwk mlf men), (rf_RW ct 0 mw 958 f1_14)] ++ ws_13) H := hP
  have hD : va_D A ([(rf_MO mo mw ma mf m0 m1 mu mv u0 u1 iz th mb mn mpt mbg mwr mwk mlf men), (rf_RW ct 0 mw 958 f1_14)] ++ ws_13) := hD
  refine lv_bipush (v := 44) hx hb dX11_goes_24 (by decide) ?_
  refine lv_bipush (v := 9) hx hb dX11_goes_26 (by decide) ?_
  refine lv_aload_n hx hb dX11_goes_28 rfl (lv_at hl 2 rfl) ?_
  refine lv_iload_n hx hb dX11_goes_29 rfl (lv_at hl 3 rfl) ?_
  refine ty_ki (wr := []) (wc := ([(rf_MO mo mw ma mf m0 m1 mu mv u0 u1 iz th mb mn mpt mbg mwr mwk mlf men), (rf_RW ct 0 mw 958 f1_14)] ++ ws_13)) (va_runV (As := [.int p1]) (rest := [.int 9, .int 44]) ⟨hx, hb, hml, hown, hts⟩ (m_X11_filled l D ct S ws_13 ph xx mo mw ma mf m0 m1 mu mv u0 u1 iz mb th mn mpt mbg mwr mwk mlf men f1_14 G (-1) p1 _ hT h_mu h_mv h_u0 h_u1 hph hy1 hR_19 hc) (cm_V 1 hts kc_X11_filled ki_RX11 kl_RX11_314 kv_X11_filled kx_X11_filled kd_X11_filled ⟨Nat.le_of_ble_eq_true rfl, Nat.le_of_ble_eq_true rfl⟩) (ty_preE (wr := []) (wc := ([(rf_MO mo mw ma mf m0 m1 mu mv u0 u1 iz th mb mn mpt mbg mwr mwk mlf men), (rf_RW ct 0 mw 958 f1_14)] ++ ws_13)) (ci := 11) (q0 := 0) hP hK hD hS hA hX rfl rfl) rfl rfl hl.1 rfl (lv_room (Nat.le_of_ble_eq_true rfl)) dX11_goes_30 ⟨Nat.le_of_ble_eq_true rfl, Nat.le_of_ble_eq_true rfl⟩) hP hD hS hA (fun r_21 u H locs hw_22 hP hD hS => ?_)
  obtain ⟨ws_23, rfl⟩ : ∃ z, z = u := ⟨_, rfl⟩
  obtain ⟨hT, hp_24⟩ := hw_22
  have hp_24 : 0 ≤ r_21.toInt := hp_24
  have hP : va_P D vwCl ([(rf_MO mo mw ma mf m0 m1 mu mv u0 u1 iz th mb mn mpt mbg mwr mwk mlf men), (rf_RW ct 0 mw 958 f1_14)] ++ ws_23) H := hP
  have hD : va_D A ([(rf_MO mo mw ma mf m0 m1 mu mv u0 u1 iz th mb mn mpt mbg mwr mwk mlf men), (rf_RW ct 0 mw 958 f1_14)] ++ ws_23) := hD
  refine lv_bipush (v := 100) hx hb dX11_goes_33 (by decide) ?_
  refine lv_idiv hx hb dX11_goes_35 (by decide) ?_
  refine va_mmin hx hb (hml.trans hl.1.symm) hown (hts _ kl_RX11_184) (hts _ jm_min_s) (hts _ ki_RJ9) (hts _ jm_min_c) (Nat.le_of_ble_eq_true rfl) (Nat.le_of_ble_eq_true rfl) (Nat.le_of_ble_eq_true rfl) (Nat.le_of_ble_eq_true rfl) dX11_goes_36 ?_
  refine lv_iadd hx hb dX11_goes_39 ?_
  refine lv_istore (lv' := [(4, .int (44 + (if (r_21 / 100) < 9 then (r_21 / 100) else 9))), (3, .int (rf_of f p1 4)), (2, .int (rf_of f p1 5)), (0, .ref mo), (1, .int p1)]) hx hb dX11_goes_40 hl (by decide) rfl (fun ls hl => ?_)
  refine lv_aload_n hx hb dX11_goes_42 rfl (lv_at hl 3 rfl) ?_
  refine lv_iload_n hx hb dX11_goes_43 rfl (lv_at hl 4 rfl) ?_
  refine lv_iload hx hb dX11_goes_44 (lv_at hl 0 rfl) ?_
  refine lv_aload_n hx hb dX11_goes_46 rfl (lv_at hl 3 rfl) ?_
  refine lv_iload_n hx hb dX11_goes_47 rfl (lv_at hl 4 rfl) ?_
  refine lv_iload hx hb dX11_goes_48 (lv_at hl 0 rfl) ?_
  refine ty_ki (wr := []) (wc := ([(rf_MO mo mw ma mf m0 m1 mu mv u0 u1 iz th mb mn mpt mbg mwr mwk mlf men), (rf_RW ct 0 mw 958 f1_14)] ++ ws_23)) (va_runV (As := [.int p1, .int (44 + (if (r_21 / 100) < 9 then (r_21 / 100) else 9))]) (rest := [.int (44 + (if (r_21 / 100) < 9 then (r_21 / 100) else 9)), .int p1, .ref mo]) ⟨hx, hb, hml, hown, hts⟩ (m_of_v l D ct S ws_23 ph xx mo mw ma mf m0 m1 mu mv u0 u1 iz mb th mn mpt mbg mwr mwk mlf men f1_14 G (-1) p1 (44 + (if (r_21 / 100) < 9 then (r_21 / 100) else 9)) _ hT h_mu h_mv h_u0 h_u1 hph hy1 hR_19 hc (by have := rf_band hp_24; omega)) (cm_V 2 hts kc_X11_of ki_RX11 kl_RX11_209 kv_X11_of kx_X11_of kd_X11_of ⟨Nat.le_of_ble_eq_true rfl, Nat.le_of_ble_eq_true rfl⟩) (ty_preE (wr := []) (wc := ([(rf_MO mo mw ma mf m0 m1 mu mv u0 u1 iz th mb mn mpt mbg mwr mwk mlf men), (rf_RW ct 0 mw 958 f1_14)] ++ ws_23)) (ci := 11) (q0 := 0) hP hK hD hS hA hX rfl rfl) rfl rfl hl.1 rfl (lv_room (Nat.le_of_ble_eq_true rfl)) dX11_goes_50 ⟨Nat.le_of_ble_eq_true rfl, Nat.le_of_ble_eq_true rfl⟩) hP hD hS hA (fun r_25 u H locs hw_26 hP hD hS => ?_)
  obtain ⟨ws_27, rfl⟩ : ∃ z, z = u := ⟨_, rfl⟩
  obtain ⟨hT, rfl⟩ := hw_26
  have hP : va_P D vwCl ([(rf_MO mo mw ma mf m0 m1 mu mv u0 u1 iz th mb mn mpt mbg mwr mwk mlf men), (rf_RW ct 0 mw 958 f1_14)] ++ ws_27) H := hP
  have hD : va_D A ([(rf_MO mo mw ma mf m0 m1 mu mv u0 u1 iz th mb mn mpt mbg mwr mwk mlf men), (rf_RW ct 0 mw 958 f1_14)] ++ ws_27) := hD
  refine lv_iconst (v := 1) hx hb dX11_goes_53 (by decide) ?_
  refine lv_iadd hx hb dX11_goes_54 ?_
  refine lv_topi (fun x_28 _ => ?_)
  refine ty_kv (wr := []) (wc := ([(rf_MO mo mw ma mf m0 m1 mu mv u0 u1 iz th mb mn mpt mbg mwr mwk mlf men), (rf_RW ct 0 mw 958 f1_14)] ++ ws_27)) (va_runV (As := [.int p1, .int (44 + (if (r_21 / 100) < 9 then (r_21 / 100) else 9)), .int x_28]) (rest := []) ⟨hx, hb, hml, hown, hts⟩ (m_put_v l D ct S ws_27 ph xx mo mw ma mf m0 m1 mu mv u0 u1 iz mb th mn mpt mbg mwr mwk mlf men f1_14 G (-1) p1 (44 + (if (r_21 / 100) < 9 then (r_21 / 100) else 9)) x_28 _ hT h_mu h_mv h_u0 h_u1 hph hy1 hR_19 hc (by have := rf_band hp_24; omega) (rf_kfree (by have := rf_band hp_24; omega))) (cm_V 3 hts kc_X11_put ki_RX11 kl_RX11_234 kv_X11_put kx_X11_put kd_X11_put ⟨Nat.le_of_ble_eq_true rfl, Nat.le_of_ble_eq_true rfl⟩) (ty_preE (wr := []) (wc := ([(rf_MO mo mw ma mf m0 m1 mu mv u0 u1 iz th mb mn mpt mbg mwr mwk mlf men), (rf_RW ct 0 mw 958 f1_14)] ++ ws_27)) (ci := 11) (q0 := 0) hP hK hD hS hA hX rfl rfl) rfl rfl hl.1 rfl (lv_room (Nat.le_of_ble_eq_true rfl)) dX11_goes_55 ⟨Nat.le_of_ble_eq_true rfl, Nat.le_of_ble_eq_true rfl⟩) hP hD hS hA (fun u H locs hw_30 hP hD hS => ?_)
  obtain ⟨ws_31, f1_32⟩ := u
  obtain ⟨hT, hp_33⟩ := hw_30
  have hp_33 : rf_d (f1_14 8) f1_14 f1_32 ∧ rf_R G (-1) f1_32 ∧ rf_sm f1_14 f1_32 ∧ f1_32 = upd f1_14 (244 + 54 * p1.toInt.toNat + (44 + (if (r_21 / 100) < 9 then (r_21 / 100) else 9)).toInt.toNat) x_28 := hp_33
  obtain ⟨hd_34, hq_35⟩ := hp_33
  have hD_36 := rf_dt hD_18 hd_34
  have hR_37 := hq_35.1
  have hM_38 := rf_smt hM_20 hq_35.2.1
  have hP : va_P D vwCl ([(rf_MO mo mw ma mf m0 m1 mu mv u0 u1 iz th mb mn mpt mbg mwr mwk mlf men), (rf_RW ct 0 mw 958 f1_32)] ++ ws_31) H := hP
  have hD : va_D A ([(rf_MO mo mw ma mf m0 m1 mu mv u0 u1 iz th mb mn mpt mbg mwr mwk mlf men), (rf_RW ct 0 mw 958 f1_32)] ++ ws_31) := hD
  refine lv_aload_n hx hb dX11_goes_58 rfl (lv_at hl 3 rfl) ?_
  refine lv_iload_n hx hb dX11_goes_59 rfl (lv_at hl 4 rfl) ?_
  refine lv_iconst (v := 0) hx hb dX11_goes_60 (by decide) ?_
  refine ty_ki (wr := []) (wc := ([(rf_MO mo mw ma mf m0 m1 mu mv u0 u1 iz th mb mn mpt mbg mwr mwk mlf men), (rf_RW ct 0 mw 958 f1_32)] ++ ws_31)) (va_runV (As := [.int p1, .int 0]) (rest := []) ⟨hx, hb, hml, hown, hts⟩ (m_of_0 l D ct S ws_31 ph xx mo mw ma mf m0 m1 mu mv u0 u1 iz mb th mn mpt mbg mwr mwk mlf men f1_32 G (-1) p1 _ hT h_mu h_mv h_u0 h_u1 hph hy1 hR_37 hc) (cm_V 2 hts kc_X11_of ki_RX11 kl_RX11_209 kv_X11_of kx_X11_of kd_X11_of ⟨Nat.le_of_ble_eq_true rfl, Nat.le_of_ble_eq_true rfl⟩) (ty_preE (wr := []) (wc := ([(rf_MO mo mw ma mf m0 m1 mu mv u0 u1 iz th mb mn mpt mbg mwr mwk mlf men), (rf_RW ct 0 mw 958 f1_32)] ++ ws_31)) (ci := 11) (q0 := 0) hP hK hD hS hA hX rfl rfl) rfl rfl hl.1 rfl (lv_room (Nat.le_of_ble_eq_true rfl)) dX11_goes_61 ⟨Nat.le_of_ble_eq_true rfl, Nat.le_of_ble_eq_true rfl⟩) hP hD hS hA (fun r_39 u H locs hw_40 hP hD hS => ?_)
  obtain ⟨ws_41, rfl⟩ : ∃ z, z = u := ⟨_, rfl⟩
  obtain ⟨hT, rfl⟩ := hw_40
  have hP : va_P D vwCl ([(rf_MO mo mw ma mf m0 m1 mu mv u0 u1 iz th mb mn mpt mbg mwr mwk mlf men), (rf_RW ct 0 mw 958 f1_32)] ++ ws_41) H := hP
  have hD : va_D A ([(rf_MO mo mw ma mf m0 m1 mu mv u0 u1 iz th mb mn mpt mbg mwr mwk mlf men), (rf_RW ct 0 mw 958 f1_32)] ++ ws_41) := hD
  refine lv_iconst (v := 1) hx hb dX11_goes_64 (by decide) ?_
  refine lv_icmp_eq (tgt := 77) hx hb dX11_goes_65 (by decide) (fun hc_42 => ?_) (fun hc_42 => ?_)
  · have ho_43 := (rf_onr hR_37 hc (Or.inl hc_42))
    refine lv_aload_n hx hb dX11_goes_77 rfl (lv_at hl 3 rfl) ?_
    refine lv_iload_n hx hb dX11_goes_78 rfl (lv_at hl 4 rfl) ?_
    refine lv_iconst (v := 4) hx hb dX11_goes_79 (by decide) ?_
    refine ty_ki (wr := []) (wc := ([(rf_MO mo mw ma mf m0 m1 mu mv u0 u1 iz th mb mn mpt mbg mwr mwk mlf men), (rf_RW ct 0 mw 958 f1_32)] ++ ws_41)) (va_runV (As := [.int p1, .int 4]) (rest := []) ⟨hx, hb, hml, hown, hts⟩ (m_of_4 l D ct S ws_41 ph xx mo mw ma mf m0 m1 mu mv u0 u1 iz mb th mn mpt mbg mwr mwk mlf men f1_32 G (-1) p1 _ hT h_mu h_mv h_u0 h_u1 hph hy1 hR_37 hc) (cm_V 2 hts kc_X11_of ki_RX11 kl_RX11_209 kv_X11_of kx_X11_of kd_X11_of ⟨Nat.le_of_ble_eq_true rfl, Nat.le_of_ble_eq_true rfl⟩) (ty_preE (wr := []) (wc := ([(rf_MO mo mw ma mf m0 m1 mu mv u0 u1 iz th mb mn mpt mbg mwr mwk mlf men), (rf_RW ct 0 mw 958 f1_32)] ++ ws_41)) (ci := 11) (q0 := 0) hP hK hD hS hA hX rfl rfl) rfl rfl hl.1 rfl (lv_room (Nat.le_of_ble_eq_true rfl)) dX11_goes_80 ⟨Nat.le_of_ble_eq_true rfl, Nat.le_of_ble_eq_true rfl⟩) hP hD hS hA (fun r_44 u H locs hw_45 hP hD hS => ?_)
    obtain ⟨ws_46, rfl⟩ : ∃ z, z = u := ⟨_, rfl⟩
    obtain ⟨hT, rfl⟩ := hw_45
    have hP : va_P D vwCl ([(rf_MO mo mw ma mf m0 m1 mu mv u0 u1 iz th mb mn mpt mbg mwr mwk mlf men), (rf_RW ct 0 mw 958 f1_32)] ++ ws_46) H := hP
    have hD : va_D A ([(rf_MO mo mw ma mf m0 m1 mu mv u0 u1 iz th mb mn mpt mbg mwr mwk mlf men), (rf_RW ct 0 mw 958 f1_32)] ++ ws_46) := hD
    refine lv_iload_n hx hb dX11_goes_83 rfl (lv_at hl 1 rfl) ?_
    refine lv_isub hx hb dX11_goes_84 ?_
    refine lv_topi (fun x_47 _ => ?_)
    refine lv_istore (lv' := [(5, .int x_47), (4, .int (44 + (if (r_21 / 100) < 9 then (r_21 / 100) else 9))), (3, .int (rf_of f p1 4)), (2, .int (rf_of f p1 5)), (0, .ref mo), (1, .int p1)]) hx hb dX11_goes_85 hl (by decide) rfl (fun ls hl => ?_)
    refine lv_aload_n hx hb dX11_goes_87 rfl (lv_at hl 4 rfl) ?_
    refine lv_iload_n hx hb dX11_goes_88 rfl (lv_at hl 5 rfl) ?_
    refine lv_iconst (v := 3) hx hb dX11_goes_89 (by decide) ?_
    refine ty_ki (wr := []) (wc := ([(rf_MO mo mw ma mf m0 m1 mu mv u0 u1 iz th mb mn mpt mbg mwr mwk mlf men), (rf_RW ct 0 mw 958 f1_32)] ++ ws_46)) (va_runV (As := [.int p1, .int 3]) (rest := []) ⟨hx, hb, hml, hown, hts⟩ (m_of_3 l D ct S ws_46 ph xx mo mw ma mf m0 m1 mu mv u0 u1 iz mb th mn mpt mbg mwr mwk mlf men f1_32 G (-1) p1 _ hT h_mu h_mv h_u0 h_u1 hph hy1 hR_37 hc) (cm_V 2 hts kc_X11_of ki_RX11 kl_RX11_209 kv_X11_of kx_X11_of kd_X11_of ⟨Nat.le_of_ble_eq_true rfl, Nat.le_of_ble_eq_true rfl⟩) (ty_preE (wr := []) (wc := ([(rf_MO mo mw ma mf m0 m1 mu mv u0 u1 iz th mb mn mpt mbg mwr mwk mlf men), (rf_RW ct 0 mw 958 f1_32)] ++ ws_46)) (ci := 11) (q0 := 0) hP hK hD hS hA hX rfl rfl) rfl rfl hl.1 rfl (lv_room (Nat.le_of_ble_eq_true rfl)) dX11_goes_90 ⟨Nat.le_of_ble_eq_true rfl, Nat.le_of_ble_eq_true rfl⟩) hP hD hS hA (fun r_48 u H locs hw_49 hP hD hS => ?_)
    obtain ⟨ws_50, rfl⟩ : ∃ z, z = u := ⟨_, rfl⟩
    obtain ⟨hT, rfl⟩ := hw_49
    have hP : va_P D vwCl ([(rf_MO mo mw ma mf m0 m1 mu mv u0 u1 iz th mb mn mpt mbg mwr mwk mlf men), (rf_RW ct 0 mw 958 f1_32)] ++ ws_50) H := hP
    have hD : va_D A ([(rf_MO mo mw ma mf m0 m1 mu mv u0 u1 iz th mb mn mpt mbg mwr mwk mlf men), (rf_RW ct 0 mw 958 f1_32)] ++ ws_50) := hD
    refine lv_if_ne (tgt := 123) hx hb dX11_goes_93 (by decide) (fun hc_51 => ?_) (fun hc_51 => ?_)
    · refine lv_aload_n hx hb dX11_goes_123 rfl (lv_at hl 4 rfl) ?_
      refine lv_iload_n hx hb dX11_goes_124 rfl (lv_at hl 5 rfl) ?_
      refine ty_kv (wr := []) (wc := ([(rf_MO mo mw ma mf m0 m1 mu mv u0 u1 iz th mb mn mpt mbg mwr mwk mlf men), (rf_RW ct 0 mw 958 f1_32)] ++ ws_50)) (va_runV (As := [.int p1]) (rest := []) ⟨hx, hb, hml, hown, hts⟩ (m_X11_warns l D ct S ws_50 ph xx mo mw ma mf m0 m1 mu mv u0 u1 iz mb th mn mpt mbg mwr mwk mlf men f1_32 G (-1) p1 _ hT h_mu h_mv h_u0 h_u1 hph hy1 hR_37 hc) (cm_V 1 hts kc_X11_warns ki_RX11 kl_RX11_317 kv_X11_warns kx_X11_warns kd_X11_warns ⟨Nat.le_of_ble_eq_true rfl, Nat.le_of_ble_eq_true rfl⟩) (ty_preE (wr := []) (wc := ([(rf_MO mo mw ma mf m0 m1 mu mv u0 u1 iz th mb mn mpt mbg mwr mwk mlf men), (rf_RW ct 0 mw 958 f1_32)] ++ ws_50)) (ci := 11) (q0 := 0) hP hK hD hS hA hX rfl rfl) rfl rfl hl.1 rfl (lv_room (Nat.le_of_ble_eq_true rfl)) dX11_goes_125 ⟨Nat.le_of_ble_eq_true rfl, Nat.le_of_ble_eq_true rfl⟩) hP hD hS hA (fun u H locs hw_53 hP hD hS => ?_)
      obtain ⟨ws_54, f1_55⟩ := u
      obtain ⟨hT, hp_56⟩ := hw_53
      have hp_56 : rf_d (f1_32 8) f1_32 f1_55 ∧ rf_R G (-1) f1_55 ∧ rf_sm f1_32 f1_55 := hp_56
      obtain ⟨hd_57, hq_58⟩ := hp_56
      have hD_59 := rf_dt hD_36 hd_57
      have hR_60 := hq_58.1
      have hM_61 := rf_smt hM_38 hq_58.2
      have ho_62 := rf_ons hR_37 hc hq_58.2 ho_43
      have hP : va_P D vwCl ([(rf_MO mo mw ma mf m0 m1 mu mv u0 u1 iz th mb mn mpt mbg mwr mwk mlf men), (rf_RW ct 0 mw 958 f1_55)] ++ ws_54) H := hP
      have hD : va_D A ([(rf_MO mo mw ma mf m0 m1 mu mv u0 u1 iz th mb mn mpt mbg mwr mwk mlf men), (rf_RW ct 0 mw 958 f1_55)] ++ ws_54) := hD
      refine lv_aload_n hx hb dX11_goes_128 rfl (lv_at hl 4 rfl) ?_
      refine lv_iload_n hx hb dX11_goes_129 rfl (lv_at hl 5 rfl) ?_
      refine ty_kv (wr := []) (wc := ([(rf_MO mo mw ma mf m0 m1 mu mv u0 u1 iz th mb mn mpt mbg mwr mwk mlf men), (rf_RW ct 0 mw 958 f1_55)] ++ ws_54)) (va_runV (As := [.int p1]) (rest := []) ⟨hx, hb, hml, hown, hts⟩ (m_X11_watches l D ct S ws_54 ph xx mo mw ma mf m0 m1 mu mv u0 u1 iz mb th mn mpt mbg mwr mwk mlf men f1_55 G p1 _ hT h_mu h_mv h_u0 h_u1 hph hy1 hy11 hR_60 hc ho_62) (cm_V 1 hts kc_X11_watches ki_RX11 kl_RX11_320 kv_X11_watches kx_X11_watches kd_X11_watches ⟨Nat.le_of_ble_eq_true rfl, Nat.le_of_ble_eq_true rfl⟩) (ty_preE (wr := []) (wc := ([(rf_MO mo mw ma mf m0 m1 mu mv u0 u1 iz th mb mn mpt mbg mwr mwk mlf men), (rf_RW ct 0 mw 958 f1_55)] ++ ws_54)) (ci := 11) (q0 := 0) hP hK hD hS hA hX rfl rfl) rfl rfl hl.1 rfl (lv_room (Nat.le_of_ble_eq_true rfl)) dX11_goes_130 ⟨Nat.le_of_ble_eq_true rfl, Nat.le_of_ble_eq_true rfl⟩) hP hD hS hA (fun u H locs hw_64 hP hD hS => ?_)
      obtain ⟨ws_65, men1_66, f1_67⟩ := u
      obtain ⟨hT, hp_68⟩ := hw_64
      have hp_68 : rf_d (f1_55 8) f1_55 f1_67 ∧ rf_R G (-1) f1_67 := hp_68
      obtain ⟨hd_69, hq_70⟩ := hp_68
      have hD_71 := rf_dt hD_59 hd_69
      have hR_72 := hq_70
      have hP : va_P D vwCl ([(rf_MO mo mw ma mf m0 m1 mu mv u0 u1 iz th mb mn mpt mbg mwr mwk mlf men1_66), (rf_RW ct 0 mw 958 f1_67)] ++ ws_65) H := hP
      have hD : va_D A ([(rf_MO mo mw ma mf m0 m1 mu mv u0 u1 iz th mb mn mpt mbg mwr mwk mlf men1_66), (rf_RW ct 0 mw 958 f1_67)] ++ ws_65) := hD
      exact W.vret hx hb hr (fun t ht hW => ⟨⟨(ws_65, men1_66, f1_67), rfl, ⟨hT, ⟨hD_71, hR_72⟩⟩, by rw [ht]; exact hP, by rw [hAe]; exact hD⟩, hS.F ht⟩) hS.2.2 dX11_goes_133
    · refine lv_iload hx hb dX11_goes_96 (lv_at hl 0 rfl) ?_
      refine lv_if_eq (tgt := 123) hx hb dX11_goes_98 (by decide) (fun hc_74 => ?_) (fun hc_74 => ?_)
      · refine lv_aload_n hx hb dX11_goes_123 rfl (lv_at hl 4 rfl) ?_
        refine lv_iload_n hx hb dX11_goes_124 rfl (lv_at hl 5 rfl) ?_
        refine ty_kv (wr := []) (wc := ([(rf_MO mo mw ma mf m0 m1 mu mv u0 u1 iz th mb mn mpt mbg mwr mwk mlf men), (rf_RW ct 0 mw 958 f1_32)] ++ ws_50)) (va_runV (As := [.int p1]) (rest := []) ⟨hx, hb, hml, hown, hts⟩ (m_X11_warns l D ct S ws_50 ph xx mo mw ma mf m0 m1 mu mv u0 u1 iz mb th mn mpt mbg mwr mwk mlf men f1_32 G (-1) p1 _ hT h_mu h_mv h_u0 h_u1 hph hy1 hR_37 hc) (cm_V 1 hts kc_X11_warns ki_RX11 kl_RX11_317 kv_X11_warns kx_X11_warns kd_X11_warns ⟨Nat.le_of_ble_eq_true rfl, Nat.le_of_ble_eq_true rfl⟩) (ty_preE (wr := []) (wc := ([(rf_MO mo mw ma mf m0 m1 mu mv u0 u1 iz th mb mn mpt mbg mwr mwk mlf men), (rf_RW ct 0 mw 958 f1_32)] ++ ws_50)) (ci := 11) (q0 := 0) hP hK hD hS hA hX rfl rfl) rfl rfl hl.1 rfl (lv_room (Nat.le_of_ble_eq_true rfl)) dX11_goes_125 ⟨Nat.le_of_ble_eq_true rfl, Nat.le_of_ble_eq_true rfl⟩) hP hD hS hA (fun u H locs hw_76 hP hD hS => ?_)
        obtain ⟨ws_77, f1_78⟩ := u
        obtain ⟨hT, hp_79⟩ := hw_76
        have hp_79 : rf_d (f1_32 8) f1_32 f1_78 ∧ rf_R G (-1) f1_78 ∧ rf_sm f1_32 f1_78 := hp_79
        obtain ⟨hd_80, hq_81⟩ := hp_79
        have hD_82 := rf_dt hD_36 hd_80
        have hR_83 := hq_81.1
        have hM_84 := rf_smt hM_38 hq_81.2
        have ho_85 := rf_ons hR_37 hc hq_81.2 ho_43
        have hP : va_P D vwCl ([(rf_MO mo mw ma mf m0 m1 mu mv u0 u1 iz th mb mn mpt mbg mwr mwk mlf men), (rf_RW ct 0 mw 958 f1_78)] ++ ws_77) H := hP
        have hD : va_D A ([(rf_MO mo mw ma mf m0 m1 mu mv u0 u1 iz th mb mn mpt mbg mwr mwk mlf men), (rf_RW ct 0 mw 958 f1_78)] ++ ws_77) := hD
        refine lv_aload_n hx hb dX11_goes_128 rfl (lv_at hl 4 rfl) ?_
        refine lv_iload_n hx hb dX11_goes_129 rfl (lv_at hl 5 rfl) ?_
        refine ty_kv (wr := []) (wc := ([(rf_MO mo mw ma mf m0 m1 mu mv u0 u1 iz th mb mn mpt mbg mwr mwk mlf men), (rf_RW ct 0 mw 958 f1_78)] ++ ws_77)) (va_runV (As := [.int p1]) (rest := []) ⟨hx, hb, hml, hown, hts⟩ (m_X11_watches l D ct S ws_77 ph xx mo mw ma mf m0 m1 mu mv u0 u1 iz mb th mn mpt mbg mwr mwk mlf men f1_78 G p1 _ hT h_mu h_mv h_u0 h_u1 hph hy1 hy11 hR_83 hc ho_85) (cm_V 1 hts kc_X11_watches ki_RX11 kl_RX11_320 kv_X11_watches kx_X11_watches kd_X11_watches ⟨Nat.le_of_ble_eq_true rfl, Nat.le_of_ble_eq_true rfl⟩) (ty_preE (wr := []) (wc := ([(rf_MO mo mw ma mf m0 m1 mu mv u0 u1 iz th mb mn mpt mbg mwr mwk mlf men), (rf_RW ct 0 mw 958 f1_78)] ++ ws_77)) (ci := 11) (q0 := 0) hP hK hD hS hA hX rfl rfl) rfl rfl hl.1 rfl (lv_room (Nat.le_of_ble_eq_true rfl)) dX11_goes_130 ⟨Nat.le_of_ble_eq_true rfl, Nat.le_of_ble_eq_true rfl⟩) hP hD hS hA (fun u H locs hw_87 hP hD hS => ?_)
        obtain ⟨ws_88, men1_89, f1_90⟩ := u
        obtain ⟨hT, hp_91⟩ := hw_87
        have hp_91 : rf_d (f1_78 8) f1_78 f1_90 ∧ rf_R G (-1) f1_90 := hp_91
        obtain ⟨hd_92, hq_93⟩ := hp_91
        have hD_94 := rf_dt hD_82 hd_92
        have hR_95 := hq_93
        have hP : va_P D vwCl ([(rf_MO mo mw ma mf m0 m1 mu mv u0 u1 iz th mb mn mpt mbg mwr mwk mlf men1_89), (rf_RW ct 0 mw 958 f1_90)] ++ ws_88) H := hP
        have hD : va_D A ([(rf_MO mo mw ma mf m0 m1 mu mv u0 u1 iz th mb mn mpt mbg mwr mwk mlf men1_89), (rf_RW ct 0 mw 958 f1_90)] ++ ws_88) := hD
        exact W.vret hx hb hr (fun t ht hW => ⟨⟨(ws_88, men1_89, f1_90), rfl, ⟨hT, ⟨hD_94, hR_95⟩⟩, by rw [ht]; exact hP, by rw [hAe]; exact hD⟩, hS.F ht⟩) hS.2.2 dX11_goes_133
      · refine lv_aload_n hx hb dX11_goes_101 rfl (lv_at hl 4 rfl) ?_
        refine lv_iload_n hx hb dX11_goes_102 rfl (lv_at hl 5 rfl) ?_
        refine lv_bipush (v := 38) hx hb dX11_goes_103 (by decide) ?_
        refine lv_aload_n hx hb dX11_goes_105 rfl (lv_at hl 4 rfl) ?_
        refine lv_iload_n hx hb dX11_goes_106 rfl (lv_at hl 5 rfl) ?_
        refine lv_iconst (v := 5) hx hb dX11_goes_107 (by decide) ?_
        refine ty_ki (wr := []) (wc := ([(rf_MO mo mw ma mf m0 m1 mu mv u0 u1 iz th mb mn mpt mbg mwr mwk mlf men), (rf_RW ct 0 mw 958 f1_32)] ++ ws_50)) (va_runV (As := [.int p1, .int 5]) (rest := [.int 38, .int p1, .ref mo]) ⟨hx, hb, hml, hown, hts⟩ (m_of_5 l D ct S ws_50 ph xx mo mw ma mf m0 m1 mu mv u0 u1 iz mb th mn mpt mbg mwr mwk mlf men f1_32 G (-1) p1 _ hT h_mu h_mv h_u0 h_u1 hph hy1 hR_37 hc) (cm_V 2 hts kc_X11_of ki_RX11 kl_RX11_209 kv_X11_of kx_X11_of kd_X11_of ⟨Nat.le_of_ble_eq_true rfl, Nat.le_of_ble_eq_true rfl⟩) (ty_preE (wr := []) (wc := ([(rf_MO mo mw ma mf m0 m1 mu mv u0 u1 iz th mb mn mpt mbg mwr mwk mlf men), (rf_RW ct 0 mw 958 f1_32)] ++ ws_50)) (ci := 11) (q0 := 0) hP hK hD hS hA hX rfl rfl) rfl rfl hl.1 rfl (lv_room (Nat.le_of_ble_eq_true rfl)) dX11_goes_108 ⟨Nat.le_of_ble_eq_true rfl, Nat.le_of_ble_eq_true rfl⟩) hP hD hS hA (fun r_97 u H locs hw_98 hP hD hS => ?_)
        obtain ⟨ws_99, rfl⟩ : ∃ z, z = u := ⟨_, rfl⟩
        obtain ⟨hT, rfl⟩ := hw_98
        have hP : va_P D vwCl ([(rf_MO mo mw ma mf m0 m1 mu mv u0 u1 iz th mb mn mpt mbg mwr mwk mlf men), (rf_RW ct 0 mw 958 f1_32)] ++ ws_99) H := hP
        have hD : va_D A ([(rf_MO mo mw ma mf m0 m1 mu mv u0 u1 iz th mb mn mpt mbg mwr mwk mlf men), (rf_RW ct 0 mw 958 f1_32)] ++ ws_99) := hD
        refine lv_iload_n hx hb dX11_goes_111 rfl (lv_at hl 3 rfl) ?_
        refine lv_isub hx hb dX11_goes_112 ?_
        refine lv_topi (fun x_100 _ => ?_)
        refine lv_sipush (v := 1000) hx hb dX11_goes_113 (by decide) ?_
        refine lv_imul hx hb dX11_goes_116 ?_
        refine lv_topi (fun x_101 _ => ?_)
        refine lv_iload hx hb dX11_goes_117 (lv_at hl 0 rfl) ?_
        refine lv_idiv hx hb dX11_goes_119 hc_74 ?_
        refine lv_topi (fun x_102 _ => ?_)
        refine ty_kv (wr := []) (wc := ([(rf_MO mo mw ma mf m0 m1 mu mv u0 u1 iz th mb mn mpt mbg mwr mwk mlf men), (rf_RW ct 0 mw 958 f1_32)] ++ ws_99)) (va_runV (As := [.int p1, .int 38, .int x_102]) (rest := []) ⟨hx, hb, hml, hown, hts⟩ (m_put_38 l D ct S ws_99 ph xx mo mw ma mf m0 m1 mu mv u0 u1 iz mb th mn mpt mbg mwr mwk mlf men f1_32 G (-1) p1 x_102 _ hT h_mu h_mv h_u0 h_u1 hph hy1 hR_37 hc) (cm_V 3 hts kc_X11_put ki_RX11 kl_RX11_234 kv_X11_put kx_X11_put kd_X11_put ⟨Nat.le_of_ble_eq_true rfl, Nat.le_of_ble_eq_true rfl⟩) (ty_preE (wr := []) (wc := ([(rf_MO mo mw ma mf m0 m1 mu mv u0 u1 iz th mb mn mpt mbg mwr mwk mlf men), (rf_RW ct 0 mw 958 f1_32)] ++ ws_99)) (ci := 11) (q0 := 0) hP hK hD hS hA hX rfl rfl) rfl rfl hl.1 rfl (lv_room (Nat.le_of_ble_eq_true rfl)) dX11_goes_120 ⟨Nat.le_of_ble_eq_true rfl, Nat.le_of_ble_eq_true rfl⟩) hP hD hS hA (fun u H locs hw_104 hP hD hS => ?_)
        obtain ⟨ws_105, f1_106⟩ := u
        obtain ⟨hT, hp_107⟩ := hw_104
        have hp_107 : rf_d (f1_32 8) f1_32 f1_106 ∧ rf_R G (-1) f1_106 ∧ rf_sm f1_32 f1_106 ∧ f1_106 = upd f1_32 (244 + 54 * p1.toInt.toNat + 38) x_102 := hp_107
        obtain ⟨hd_108, hq_109⟩ := hp_107
        have hD_110 := rf_dt hD_36 hd_108
        have hR_111 := hq_109.1
        have hM_112 := rf_smt hM_38 hq_109.2.1
        have ho_113 := rf_ons hR_37 hc hq_109.2.1 ho_43
        have hP : va_P D vwCl ([(rf_MO mo mw ma mf m0 m1 mu mv u0 u1 iz th mb mn mpt mbg mwr mwk mlf men), (rf_RW ct 0 mw 958 f1_106)] ++ ws_105) H := hP
        have hD : va_D A ([(rf_MO mo mw ma mf m0 m1 mu mv u0 u1 iz th mb mn mpt mbg mwr mwk mlf men), (rf_RW ct 0 mw 958 f1_106)] ++ ws_105) := hD
        refine lv_aload_n hx hb dX11_goes_123 rfl (lv_at hl 4 rfl) ?_
        refine lv_iload_n hx hb dX11_goes_124 rfl (lv_at hl 5 rfl) ?_
        refine ty_kv (wr := []) (wc := ([(rf_MO mo mw ma mf m0 m1 mu mv u0 u1 iz th mb mn mpt mbg mwr mwk mlf men), (rf_RW ct 0 mw 958 f1_106)] ++ ws_105)) (va_runV (As := [.int p1]) (rest := []) ⟨hx, hb, hml, hown, hts⟩ (m_X11_warns l D ct S ws_105 ph xx mo mw ma mf m0 m1 mu mv u0 u1 iz mb th mn mpt mbg mwr mwk mlf men f1_106 G (-1) p1 _ hT h_mu h_mv h_u0 h_u1 hph hy1 hR_111 hc) (cm_V 1 hts kc_X11_warns ki_RX11 kl_RX11_317 kv_X11_warns kx_X11_warns kd_X11_warns ⟨Nat.le_of_ble_eq_true rfl, Nat.le_of_ble_eq_true rfl⟩) (ty_preE (wr := []) (wc := ([(rf_MO mo mw ma mf m0 m1 mu mv u0 u1 iz th mb mn mpt mbg mwr mwk mlf men), (rf_RW ct 0 mw 958 f1_106)] ++ ws_105)) (ci := 11) (q0 := 0) hP hK hD hS hA hX rfl rfl) rfl rfl hl.1 rfl (lv_room (Nat.le_of_ble_eq_true rfl)) dX11_goes_125 ⟨Nat.le_of_ble_eq_true rfl, Nat.le_of_ble_eq_true rfl⟩) hP hD hS hA (fun u H locs hw_115 hP hD hS => ?_)
        obtain ⟨ws_116, f1_117⟩ := u
        obtain ⟨hT, hp_118⟩ := hw_115
        have hp_118 : rf_d (f1_106 8) f1_106 f1_117 ∧ rf_R G (-1) f1_117 ∧ rf_sm f1_106 f1_117 := hp_118
        obtain ⟨hd_119, hq_120⟩ := hp_118
        have hD_121 := rf_dt hD_110 hd_119
        have hR_122 := hq_120.1
        have hM_123 := rf_smt hM_112 hq_120.2
        have ho_124 := rf_ons hR_111 hc hq_120.2 ho_113
        have hP : va_P D vwCl ([(rf_MO mo mw ma mf m0 m1 mu mv u0 u1 iz th mb mn mpt mbg mwr mwk mlf men), (rf_RW ct 0 mw 958 f1_117)] ++ ws_116) H := hP
        have hD : va_D A ([(rf_MO mo mw ma mf m0 m1 mu mv u0 u1 iz th mb mn mpt mbg mwr mwk mlf men), (rf_RW ct 0 mw 958 f1_117)] ++ ws_116) := hD
        refine lv_aload_n hx hb dX11_goes_128 rfl (lv_at hl 4 rfl) ?_
        refine lv_iload_n hx hb dX11_goes_129 rfl (lv_at hl 5 rfl) ?_
        refine ty_kv (wr := []) (wc := ([(rf_MO mo mw ma mf m0 m1 mu mv u0 u1 iz th mb mn mpt mbg mwr mwk mlf men), (rf_RW ct 0 mw 958 f1_117)] ++ ws_116)) (va_runV (As := [.int p1]) (rest := []) ⟨hx, hb, hml, hown, hts⟩ (m_X11_watches l D ct S ws_116 ph xx mo mw ma mf m0 m1 mu mv u0 u1 iz mb th mn mpt mbg mwr mwk mlf men f1_117 G p1 _ hT h_mu h_mv h_u0 h_u1 hph hy1 hy11 hR_122 hc ho_124) (cm_V 1 hts kc_X11_watches ki_RX11 kl_RX11_320 kv_X11_watches kx_X11_watches kd_X11_watches ⟨Nat.le_of_ble_eq_true rfl, Nat.le_of_ble_eq_true rfl⟩) (ty_preE (wr := []) (wc := ([(rf_MO mo mw ma mf m0 m1 mu mv u0 u1 iz th mb mn mpt mbg mwr mwk mlf men), (rf_RW ct 0 mw 958 f1_117)] ++ ws_116)) (ci := 11) (q0 := 0) hP hK hD hS hA hX rfl rfl) rfl rfl hl.1 rfl (lv_room (Nat.le_of_ble_eq_true rfl)) dX11_goes_130 ⟨Nat.le_of_ble_eq_true rfl, Nat.le_of_ble_eq_true rfl⟩) hP hD hS hA (fun u H locs hw_126 hP hD hS => ?_)
        obtain ⟨ws_127, men1_128, f1_129⟩ := u
        obtain ⟨hT, hp_130⟩ := hw_126
        have hp_130 : rf_d (f1_117 8) f1_117 f1_129 ∧ rf_R G (-1) f1_129 := hp_130
        obtain ⟨hd_131, hq_132⟩ := hp_130
        have hD_133 := rf_dt hD_121 hd_131
        have hR_134 := hq_132
        have hP : va_P D vwCl ([(rf_MO mo mw ma mf m0 m1 mu mv u0 u1 iz th mb mn mpt mbg mwr mwk mlf men1_128), (rf_RW ct 0 mw 958 f1_129)] ++ ws_127) H := hP
        have hD : va_D A ([(rf_MO mo mw ma mf m0 m1 mu mv u0 u1 iz th mb mn mpt mbg mwr mwk mlf men1_128), (rf_RW ct 0 mw 958 f1_129)] ++ ws_127) := hD
        exact W.vret hx hb hr (fun t ht hW => ⟨⟨(ws_127, men1_128, f1_129), rfl, ⟨hT, ⟨hD_133, hR_134⟩⟩, by rw [ht]; exact hP, by rw [hAe]; exact hD⟩, hS.F ht⟩) hS.2.2 dX11_goes_133
  · refine lv_aload_n hx hb dX11_goes_68 rfl (lv_at hl 3 rfl) ?_
    refine lv_iload_n hx hb dX11_goes_69 rfl (lv_at hl 4 rfl) ?_
    refine lv_bipush (v := 37) hx hb dX11_goes_70 (by decide) ?_
    refine lv_iconst (v := 0) hx hb dX11_goes_72 (by decide) ?_
    refine ty_kv (wr := []) (wc := ([(rf_MO mo mw ma mf m0 m1 mu mv u0 u1 iz th mb mn mpt mbg mwr mwk mlf men), (rf_RW ct 0 mw 958 f1_32)] ++ ws_41)) (va_runV (As := [.int p1, .int 37, .int 0]) (rest := []) ⟨hx, hb, hml, hown, hts⟩ (m_put_37 l D ct S ws_41 ph xx mo mw ma mf m0 m1 mu mv u0 u1 iz mb th mn mpt mbg mwr mwk mlf men f1_32 G (-1) p1 (0 : Int32) _ hT h_mu h_mv h_u0 h_u1 hph hy1 hR_37 hc) (cm_V 3 hts kc_X11_put ki_RX11 kl_RX11_234 kv_X11_put kx_X11_put kd_X11_put ⟨Nat.le_of_ble_eq_true rfl, Nat.le_of_ble_eq_true rfl⟩) (ty_preE (wr := []) (wc := ([(rf_MO mo mw ma mf m0 m1 mu mv u0 u1 iz th mb mn mpt mbg mwr mwk mlf men), (rf_RW ct 0 mw 958 f1_32)] ++ ws_41)) (ci := 11) (q0 := 0) hP hK hD hS hA hX rfl rfl) rfl rfl hl.1 rfl (lv_room (Nat.le_of_ble_eq_true rfl)) dX11_goes_73 ⟨Nat.le_of_ble_eq_true rfl, Nat.le_of_ble_eq_true rfl⟩) hP hD hS hA (fun u H locs hw_137 hP hD hS => ?_)
    obtain ⟨ws_138, f1_139⟩ := u
    obtain ⟨hT, hp_140⟩ := hw_137
    have hp_140 : rf_d (f1_32 8) f1_32 f1_139 ∧ rf_R G (-1) f1_139 ∧ rf_sm f1_32 f1_139 ∧ f1_139 = upd f1_32 (244 + 54 * p1.toInt.toNat + 37) (0 : Int32) := hp_140
    obtain ⟨hd_141, hq_142⟩ := hp_140
    have hD_143 := rf_dt hD_36 hd_141
    have hR_144 := hq_142.1
    have hM_145 := rf_smt hM_38 hq_142.2.1
    have hP : va_P D vwCl ([(rf_MO mo mw ma mf m0 m1 mu mv u0 u1 iz th mb mn mpt mbg mwr mwk mlf men), (rf_RW ct 0 mw 958 f1_139)] ++ ws_138) H := hP
    have hD : va_D A ([(rf_MO mo mw ma mf m0 m1 mu mv u0 u1 iz th mb mn mpt mbg mwr mwk mlf men), (rf_RW ct 0 mw 958 f1_139)] ++ ws_138) := hD
    exact W.vret hx hb hr (fun t ht hW => ⟨⟨(ws_138, men, f1_139), rfl, ⟨hT, ⟨hD_143, hR_144⟩⟩, by rw [ht]; exact hP, by rw [hAe]; exact hD⟩, hS.F ht⟩) hS.2.2 dX11_goes_76
theorem dX11_ticks_0 : decode cX11_ticks 0 = .ok (.aload_n 0, 1) := by decide +kernel
theorem dX11_ticks_1 : decode cX11_ticks 1 = .ok (.getfield 9, 3) := by decide +kernel
theorem dX11_ticks_4 : decode cX11_ticks 4 = .ok (.bipush 8, 2) := by decide +kernel
theorem dX11_ticks_6 : decode cX11_ticks 6 = .ok (.dup2, 1) := by decide +kernel
theorem dX11_ticks_7 : decode cX11_ticks 7 = .ok (.iaload, 1) := by decide +kernel
theorem dX11_ticks_8 : decode cX11_ticks 8 = .ok (.iconst 1, 1) := by decide +kernel
theorem dX11_ticks_9 : decode cX11_ticks 9 = .ok (.iadd, 1) := by decide +kernel
theorem dX11_ticks_10 : decode cX11_ticks 10 = .ok (.iastore, 1) := by decide +kernel
theorem dX11_ticks_11 : decode cX11_ticks 11 = .ok (.iconst 0, 1) := by decide +kernel
theorem dX11_ticks_12 : decode cX11_ticks 12 = .ok (.istore_n 1, 1) := by decide +kernel
theorem dX11_ticks_13 : decode cX11_ticks 13 = .ok (.iload_n 1, 1) := by decide +kernel
theorem dX11_ticks_14 : decode cX11_ticks 14 = .ok (.aload_n 0, 1) := by decide +kernel
theorem dX11_ticks_15 : decode cX11_ticks 15 = .ok (.getfield 9, 3) := by decide +kernel
theorem dX11_ticks_18 : decode cX11_ticks 18 = .ok (.bipush 9, 2) := by decide +kernel
theorem dX11_ticks_20 : decode cX11_ticks 20 = .ok (.iaload, 1) := by decide +kernel
theorem dX11_ticks_21 : decode cX11_ticks 21 = .ok (.if_icmp .ge 14, 3) := by decide +kernel
theorem dX11_ticks_24 : decode cX11_ticks 24 = .ok (.aload_n 0, 1) := by decide +kernel
theorem dX11_ticks_25 : decode cX11_ticks 25 = .ok (.iload_n 1, 1) := by decide +kernel
theorem dX11_ticks_26 : decode cX11_ticks 26 = .ok (.invokevirtual 323, 3) := by decide +kernel
theorem dX11_ticks_29 : decode cX11_ticks 29 = .ok (.iinc 1 1, 3) := by decide +kernel
theorem dX11_ticks_32 : decode cX11_ticks 32 = .ok (.goto (-19), 3) := by decide +kernel
theorem dX11_ticks_35 : decode cX11_ticks 35 = .ok (.return_, 1) := by decide +kernel
set_option maxRecDepth 100000 in
set_option maxHeartbeats 4000000 in
theorem m_X11_ticks (l : Launch) (D : va_G) (ct : Nat → ClassId) (S : ty_S) (ws : va_W) (ph : va_W → Prop) (xx : Nat → Nat → Nat → Prop) (mo : Nat) (mw : Nat) (ma : Nat) (mf : Nat) (m0 : Nat) (m1 : Nat) (mu : Nat) (mv : Nat) (u0 : Nat) (u1 : Nat) (iz : Nat) (mb : Nat) (th : Int32) (mn : Int32) (mpt : Int32) (mbg : Int32) (mwr : Int32) (mwk : Int32) (mlf : Int32) (men : Int32) (f : Nat → Int32) (G : Nat → Int32) (sz : Nat) (hT : ty_V ct S ph ws) (h_mu : S mu = some (.inr (1, 42))) (h_mv : S mv = some (.inr (1, 42))) (h_u0 : S u0 = some (.inr (1, 42))) (h_u1 : S u1 = some (.inr (1, 42))) (hph : ty_C ph xx) (hy1 : ty_y1 xx) (hy11 : ty_y0 xx 11) (hR : rf_R G (-1) f) : Met l yX11_ticks (ws_ yX11_ticks cX11_ticks 2 none) ({ frames := 7, cells := 0, slots := 0, locals := 165 } : Room) (va_Pc [.ref mo] (cmP D ct sz ([(rf_MO mo mw ma mf m0 m1 mu mv u0 u1 iz th mb mn mpt mbg mwr mwk mlf men), (rf_RW ct 0 mw 958 f)] ++ ws))) (va_Qv (fun (u : va_W × Int32 × (Nat → Int32)) => match u with | (u9, men1, f1) => ty_V ct S ph u9 ∧ rf_d ((f 8) + 1) f f1 ∧ rf_R G (-1) f1) (cmB D ([(rf_MO mo mw ma mf m0 m1 mu mv u0 u1 iz th mb mn mpt mbg mwr mwk mlf men), (rf_RW ct 0 mw 958 f)] ++ ws) sz (fun (u : va_W × Int32 × (Nat → Int32)) => match u with | (u9, men1, f1) => ([(rf_MO mo mw ma mf m0 m1 mu mv u0 u1 iz th mb mn mpt mbg mwr mwk mlf men1), (rf_RW ct 0 mw 958 f1)] ++ u9))) (va_A ([(rf_MO mo mw ma mf m0 m1 mu mv u0 u1 iz th mb mn mpt mbg mwr mwk mlf men), (rf_RW ct 0 mw 958 f)] ++ ws) sz)) 0 0 (va_A ([(rf_MO mo mw ma mf m0 m1 mu mv u0 u1 iz th mb mn mpt mbg mwr mwk mlf men), (rf_RW ct 0 mw 958 f)] ++ ws) sz) := by
  refine Met.ofW (cc := cX11_ticks) (maxL := 2) (ret := none) (by decide) rfl ?_
  intro p e s m args below meth c s₁ B hml hv
  obtain ⟨rfl, hsz, hP, hK, hD0, hX⟩ := hv
  have hx := B.exec
  have hb := B.bytes
  have hr := B.returns
  have hts := ws_all (atoms_spec (ws := ws_ yX11_ticks cX11_ticks 2 none) B.pre)
  have hown : s.vm.findClass RX11 = some m.cls := findClass_of_methodNamed B.named
  have hlocks := B.notSynchronized
  subst hsz
  have hD := hD0.self (sz := s.heap.size)
  generalize hAe : va_A ([(rf_MO mo mw ma mf m0 m1 mu mv u0 u1 iz th mb mn mpt mbg mwr mwk mlf men), (rf_RW ct 0 mw 958 f)] ++ ws) s.heap.size = A at hD hX ⊢
  have hA : ∀ q : Nat, s.heap.size ≤ q → A q := fun q h => by rw [← hAe]; exact Or.inr h
  have hS : va_S A s.heap s.heap [] := va_S.rf
  have hl := lv_entry ([.ref mo]) (n := 2) (Nat.le_of_ble_eq_true rfl)
  rw [lg_entry_eq]
  generalize (lg_sl ([.ref mo]) ++ List.replicate (2 - (lg_sl ([.ref mo])).length) Slot.unset).toArray = ls at hl ⊢
  have hl : lv_has ls 2 [(0, .ref mo)] := hl
  refine lv_aload_n hx hb dX11_ticks_0 rfl (lv_at hl 0 rfl) ?_
  refine va_get (v := .ref mw) (D := D) (ci := 11) (C := RX11) (T := TX11) (N := 19) hx hb hts in_X11 hown hK hP 0 rfl rfl 0 (by decide) (hts _ kl_RX11_9) (fun _ h9 => h9) rfl dX11_ticks_1 ?_
  refine lv_bipush (v := 8) hx hb dX11_ticks_4 (by decide) ?_
  refine lv_dup2_11 hx hb dX11_ticks_6 rfl rfl ?_
  refine va_iald hx hb hK hP 1 0 rfl rfl (cm_vin (by decide)) dX11_ticks_7 ?_
  refine cm_cst (y := (f 8)) (by first | rfl | decide +kernel) ?_
  refine lv_iconst (v := 1) hx hb dX11_ticks_8 (by decide) ?_
  refine lv_iadd hx hb dX11_ticks_9 ?_
  refine va_iast hx hb hK hP hD hS 1 0 rfl rfl (cm_vin (by decide)) dX11_ticks_10 (fun H locs hP hD hS => ?_)
  have hP : va_P D vwCl ([(rf_MO mo mw ma mf m0 m1 mu mv u0 u1 iz th mb mn mpt mbg mwr mwk mlf men), (rf_RW ct 0 mw 958 (upd f (8 : Int32).toNatClampNeg ((f 8) + 1)))] ++ ws) H := hP
  have hD : va_D A ([(rf_MO mo mw ma mf m0 m1 mu mv u0 u1 iz th mb mn mpt mbg mwr mwk mlf men), (rf_RW ct 0 mw 958 (upd f (8 : Int32).toNatClampNeg ((f 8) + 1)))] ++ ws) := hD
  have hU_2 : rf_R G (-1) (upd f (8 : Int32).toNatClampNeg ((f 8) + 1)) ∧ rf_sm f (upd f (8 : Int32).toNatClampNeg ((f 8) + 1)) := (rf_free _ hR (Or.inl (by decide)))
  generalize hf_5 : (upd f (8 : Int32).toNatClampNeg ((f 8) + 1)) = f_1 at hP hD hU_2
  have hD_6 := rf_dk (rf_dr f) hf_5 (by decide) rfl
  have hR_3 := hU_2.1
  have hM_4 := rf_smt (rf_smr f) hU_2.2
  refine lv_iconst (v := 0) hx hb dX11_ticks_11 (by decide) ?_
  refine lv_istore_n (lv' := [(1, .int 0), (0, .ref mo)]) hx hb dX11_ticks_12 rfl hl (by decide) rfl (fun ls hl => ?_)
  refine ty_loop (I := fun μ H locs ls => ∃ (ws : va_W) (y_7 : Int32) (y_8 : Int32) (f_9 : Nat → Int32), μ = (2147483648 - y_7.toInt).toNat ∧ ty_V ct S ph ws ∧ va_P D vwCl ([(rf_MO mo mw ma mf m0 m1 mu mv u0 u1 iz th mb mn mpt mbg mwr mwk mlf y_8), (rf_RW ct 0 mw 958 f_9)] ++ ws) H ∧ va_D A ([(rf_MO mo mw ma mf m0 m1 mu mv u0 u1 iz th mb mn mpt mbg mwr mwk mlf y_8), (rf_RW ct 0 mw 958 f_9)] ++ ws) ∧ va_S A s.heap H locs ∧ lv_has ls 2 [(0, .ref mo), (1, .int y_7)] ∧ rf_R G (-1) f_9 ∧ rf_d ((f 8) + 1) f f_9 ∧ 0 ≤ y_7.toInt) ⟨_, ws, (0 : Int32), men, f_1, rfl, hT, hP, hD, hS, (lv_sub hl [1, 0] rfl), hR_3, hD_6, (by decide)⟩ (fun μ H locs ls hI ih_13 => ?_)
  obtain ⟨ws, y_7, y_8, f_9, rfl, hT, hP, hD, hS, hl, hR_13, hD_13, hex_13⟩ := hI
  refine lv_iload_n hx hb dX11_ticks_13 rfl (lv_at hl 1 rfl) ?_
  refine lv_aload_n hx hb dX11_ticks_14 rfl (lv_at hl 0 rfl) ?_
  refine va_get (v := .ref mw) (D := D) (ci := 11) (C := RX11) (T := TX11) (N := 19) hx hb hts in_X11 hown hK hP 0 rfl rfl 0 (by decide) (hts _ kl_RX11_9) (fun _ h9 => h9) rfl dX11_ticks_15 ?_
  refine lv_bipush (v := 9) hx hb dX11_ticks_18 (by decide) ?_
  refine va_iald hx hb hK hP 1 0 rfl rfl (cm_vin (by decide)) dX11_ticks_20 ?_
  refine cm_cst (y := (f_9 9)) (by first | rfl | decide +kernel) ?_
  refine lv_icmp_ge (tgt := 35) hx hb dX11_ticks_21 (by decide) (fun hc_10 => ?_) (fun hc_10 => ?_)
  · exact W.vret hx hb hr (fun t ht hW => ⟨⟨(ws, y_8, f_9), rfl, ⟨hT, ⟨hD_13, hR_13⟩⟩, by rw [ht]; exact hP, by rw [hAe]; exact hD⟩, hS.F ht⟩) hS.2.2 dX11_ticks_35
  · refine lv_aload_n hx hb dX11_ticks_24 rfl (lv_at hl 0 rfl) ?_
    refine lv_iload_n hx hb dX11_ticks_25 rfl (lv_at hl 1 rfl) ?_
    refine ty_kv (wr := []) (wc := ([(rf_MO mo mw ma mf m0 m1 mu mv u0 u1 iz th mb mn mpt mbg mwr mwk mlf y_8), (rf_RW ct 0 mw 958 f_9)] ++ ws)) (va_runV (As := [.int y_7]) (rest := []) ⟨hx, hb, hml, hown, hts⟩ (m_X11_goes l D ct S ws ph xx mo mw ma mf m0 m1 mu mv u0 u1 iz mb th mn mpt mbg mwr mwk mlf y_8 f_9 G y_7 _ hT h_mu h_mv h_u0 h_u1 hph hy1 hy11 hR_13 ⟨hex_13, by rw [← hR_13.2.1.2.2.2.2.1]; exact rf_ylt rfl hc_10⟩) (cm_V 1 hts kc_X11_goes ki_RX11 kl_RX11_323 kv_X11_goes kx_X11_goes kd_X11_goes ⟨Nat.le_of_ble_eq_true rfl, Nat.le_of_ble_eq_true rfl⟩) (ty_preE (wr := []) (wc := ([(rf_MO mo mw ma mf m0 m1 mu mv u0 u1 iz th mb mn mpt mbg mwr mwk mlf y_8), (rf_RW ct 0 mw 958 f_9)] ++ ws)) (ci := 11) (q0 := 0) hP hK hD hS hA hX rfl rfl) rfl rfl hl.1 rfl (lv_room (Nat.le_of_ble_eq_true rfl)) dX11_ticks_26 ⟨Nat.le_of_ble_eq_true rfl, Nat.le_of_ble_eq_true rfl⟩) hP hD hS hA (fun u H locs hw_12 hP hD hS => ?_)
    obtain ⟨ws_13, men1_14, f1_15⟩ := u
    obtain ⟨hT, hp_16⟩ := hw_12
    have hp_16 : rf_d (f_9 8) f_9 f1_15 ∧ rf_R G (-1) f1_15 := hp_16
    obtain ⟨hd_17, hq_18⟩ := hp_16
    have hD_19 := rf_dt hD_13 hd_17
    have hR_20 := hq_18
    have hP : va_P D vwCl ([(rf_MO mo mw ma mf m0 m1 mu mv u0 u1 iz th mb mn mpt mbg mwr mwk mlf men1_14), (rf_RW ct 0 mw 958 f1_15)] ++ ws_13) H := hP
    have hD : va_D A ([(rf_MO mo mw ma mf m0 m1 mu mv u0 u1 iz th mb mn mpt mbg mwr mwk mlf men1_14), (rf_RW ct 0 mw 958 f1_15)] ++ ws_13) := hD
    refine lv_iinc (v := (y_7 + Int32.ofInt 1)) (lv' := [(1, .int (y_7 + Int32.ofInt 1)), (0, .ref mo)]) hx hb dX11_ticks_29 hl (k := 1) rfl rfl (by decide) rfl (fun ls hl => ?_)
    refine lv_goto (tgt := 13) hx hb dX11_ticks_32 (by decide) ?_
    exact ih_13 _ _ _ _ (ty_inc (cm_lt hc_10)) ⟨ws_13, (y_7 + Int32.ofInt 1), men1_14, f1_15, rfl, hT, hP, hD, hS, (lv_sub hl [1, 0] rfl), hR_20, hD_19, (ty_nn hex_13 (cm_lt hc_10))⟩
theorem dX11_alone_0 : decode cX11_alone 0 = .ok (.aload_n 0, 1) := by decide +kernel
theorem dX11_alone_1 : decode cX11_alone 1 = .ok (.getfield 9, 3) := by decide +kernel
theorem dX11_alone_4 : decode cX11_alone 4 = .ok (.bipush 8, 2) := by decide +kernel
theorem dX11_alone_6 : decode cX11_alone 6 = .ok (.dup2, 1) := by decide +kernel
theorem dX11_alone_7 : decode cX11_alone 7 = .ok (.iaload, 1) := by decide +kernel
theorem dX11_alone_8 : decode cX11_alone 8 = .ok (.iconst 1, 1) := by decide +kernel
theorem dX11_alone_9 : decode cX11_alone 9 = .ok (.iadd, 1) := by decide +kernel
theorem dX11_alone_10 : decode cX11_alone 10 = .ok (.iastore, 1) := by decide +kernel
theorem dX11_alone_11 : decode cX11_alone 11 = .ok (.aload_n 0, 1) := by decide +kernel
theorem dX11_alone_12 : decode cX11_alone 12 = .ok (.iload_n 1, 1) := by decide +kernel
theorem dX11_alone_13 : decode cX11_alone 13 = .ok (.invokevirtual 323, 3) := by decide +kernel
theorem dX11_alone_16 : decode cX11_alone 16 = .ok (.return_, 1) := by decide +kernel
set_option maxRecDepth 100000 in
set_option maxHeartbeats 4000000 in
theorem m_X11_alone (l : Launch) (D : va_G) (ct : Nat → ClassId) (S : ty_S) (ws : va_W) (ph : va_W → Prop) (xx : Nat → Nat → Nat → Prop) (mo : Nat) (mw : Nat) (ma : Nat) (mf : Nat) (m0 : Nat) (m1 : Nat) (mu : Nat) (mv : Nat) (u0 : Nat) (u1 : Nat) (iz : Nat) (mb : Nat) (th : Int32) (mn : Int32) (mpt : Int32) (mbg : Int32) (mwr : Int32) (mwk : Int32) (mlf : Int32) (men : Int32) (f : Nat → Int32) (G : Nat → Int32) (p1 : Int32) (sz : Nat) (hT : ty_V ct S ph ws) (h_mu : S mu = some (.inr (1, 42))) (h_mv : S mv = some (.inr (1, 42))) (h_u0 : S u0 = some (.inr (1, 42))) (h_u1 : S u1 = some (.inr (1, 42))) (hph : ty_C ph xx) (hy1 : ty_y1 xx) (hy11 : ty_y0 xx 11) (hR : rf_R G (-1) f) (hc : 0 ≤ p1.toInt ∧ p1.toInt < (G 9).toInt) : Met l yX11_alone (ws_ yX11_alone cX11_alone 2 none) ({ frames := 7, cells := 0, slots := 0, locals := 165 } : Room) (va_Pc [.ref mo, .int p1] (cmP D ct sz ([(rf_MO mo mw ma mf m0 m1 mu mv u0 u1 iz th mb mn mpt mbg mwr mwk mlf men), (rf_RW ct 0 mw 958 f)] ++ ws))) (va_Qv (fun (u : va_W × Int32 × (Nat → Int32)) => match u with | (u9, men1, f1) => ty_V ct S ph u9 ∧ rf_d ((f 8) + 1) f f1 ∧ rf_R G (-1) f1) (cmB D ([(rf_MO mo mw ma mf m0 m1 mu mv u0 u1 iz th mb mn mpt mbg mwr mwk mlf men), (rf_RW ct 0 mw 958 f)] ++ ws) sz (fun (u : va_W × Int32 × (Nat → Int32)) => match u with | (u9, men1, f1) => ([(rf_MO mo mw ma mf m0 m1 mu mv u0 u1 iz th mb mn mpt mbg mwr mwk mlf men1), (rf_RW ct 0 mw 958 f1)] ++ u9))) (va_A ([(rf_MO mo mw ma mf m0 m1 mu mv u0 u1 iz th mb mn mpt mbg mwr mwk mlf men), (rf_RW ct 0 mw 958 f)] ++ ws) sz)) 0 0 (va_A ([(rf_MO mo mw ma mf m0 m1 mu mv u0 u1 iz th mb mn mpt mbg mwr mwk mlf men), (rf_RW ct 0 mw 958 f)] ++ ws) sz) := by
  refine Met.ofW (cc := cX11_alone) (maxL := 2) (ret := none) (by decide) rfl ?_
  intro p e s m args below meth c s₁ B hml hv
  obtain ⟨rfl, hsz, hP, hK, hD0, hX⟩ := hv
  have hx := B.exec
  have hb := B.bytes
  have hr := B.returns
  have hts := ws_all (atoms_spec (ws := ws_ yX11_alone cX11_alone 2 none) B.pre)
  have hown : s.vm.findClass RX11 = some m.cls := findClass_of_methodNamed B.named
  have hlocks := B.notSynchronized
  subst hsz
  have hD := hD0.self (sz := s.heap.size)
  generalize hAe : va_A ([(rf_MO mo mw ma mf m0 m1 mu mv u0 u1 iz th mb mn mpt mbg mwr mwk mlf men), (rf_RW ct 0 mw 958 f)] ++ ws) s.heap.size = A at hD hX ⊢
  have hA : ∀ q : Nat, s.heap.size ≤ q → A q := fun q h => by rw [← hAe]; exact Or.inr h
  have hS : va_S A s.heap s.heap [] := va_S.rf
  have hl := lv_entry ([.ref mo, .int p1]) (n := 2) (Nat.le_of_ble_eq_true rfl)
  rw [lg_entry_eq]
  generalize (lg_sl ([.ref mo, .int p1]) ++ List.replicate (2 - (lg_sl ([.ref mo, .int p1])).length) Slot.unset).toArray = ls at hl ⊢
  have hl : lv_has ls 2 [(0, .ref mo), (1, .int p1)] := hl
  refine lv_aload_n hx hb dX11_alone_0 rfl (lv_at hl 0 rfl) ?_
  refine va_get (v := .ref mw) (D := D) (ci := 11) (C := RX11) (T := TX11) (N := 19) hx hb hts in_X11 hown hK hP 0 rfl rfl 0 (by decide) (hts _ kl_RX11_9) (fun _ h9 => h9) rfl dX11_alone_1 ?_
  refine lv_bipush (v := 8) hx hb dX11_alone_4 (by decide) ?_
  refine lv_dup2_11 hx hb dX11_alone_6 rfl rfl ?_
  refine va_iald hx hb hK hP 1 0 rfl rfl (cm_vin (by decide)) dX11_alone_7 ?_
  refine cm_cst (y := (f 8)) (by first | rfl | decide +kernel) ?_
  refine lv_iconst (v := 1) hx hb dX11_alone_8 (by decide) ?_
  refine lv_iadd hx hb dX11_alone_9 ?_
  refine va_iast hx hb hK hP hD hS 1 0 rfl rfl (cm_vin (by decide)) dX11_alone_10 (fun H locs hP hD hS => ?_)
  have hP : va_P D vwCl ([(rf_MO mo mw ma mf m0 m1 mu mv u0 u1 iz th mb mn mpt mbg mwr mwk mlf men), (rf_RW ct 0 mw 958 (upd f (8 : Int32).toNatClampNeg ((f 8) + 1)))] ++ ws) H := hP
  have hD : va_D A ([(rf_MO mo mw ma mf m0 m1 mu mv u0 u1 iz th mb mn mpt mbg mwr mwk mlf men), (rf_RW ct 0 mw 958 (upd f (8 : Int32).toNatClampNeg ((f 8) + 1)))] ++ ws) := hD
  have hU_2 : rf_R G (-1) (upd f (8 : Int32).toNatClampNeg ((f 8) + 1)) ∧ rf_sm f (upd f (8 : Int32).toNatClampNeg ((f 8) + 1)) := (rf_free _ hR (Or.inl (by decide)))
  generalize hf_5 : (upd f (8 : Int32).toNatClampNeg ((f 8) + 1)) = f_1 at hP hD hU_2
  have hD_6 := rf_dk (rf_dr f) hf_5 (by decide) rfl
  have hR_3 := hU_2.1
  have hM_4 := rf_smt (rf_smr f) hU_2.2
  refine lv_aload_n hx hb dX11_alone_11 rfl (lv_at hl 0 rfl) ?_
  refine lv_iload_n hx hb dX11_alone_12 rfl (lv_at hl 1 rfl) ?_
  refine ty_kv (wr := []) (wc := ([(rf_MO mo mw ma mf m0 m1 mu mv u0 u1 iz th mb mn mpt mbg mwr mwk mlf men), (rf_RW ct 0 mw 958 f_1)] ++ ws)) (va_runV (As := [.int p1]) (rest := []) ⟨hx, hb, hml, hown, hts⟩ (m_X11_goes l D ct S ws ph xx mo mw ma mf m0 m1 mu mv u0 u1 iz mb th mn mpt mbg mwr mwk mlf men f_1 G p1 _ hT h_mu h_mv h_u0 h_u1 hph hy1 hy11 hR_3 hc) (cm_V 1 hts kc_X11_goes ki_RX11 kl_RX11_323 kv_X11_goes kx_X11_goes kd_X11_goes ⟨Nat.le_of_ble_eq_true rfl, Nat.le_of_ble_eq_true rfl⟩) (ty_preE (wr := []) (wc := ([(rf_MO mo mw ma mf m0 m1 mu mv u0 u1 iz th mb mn mpt mbg mwr mwk mlf men), (rf_RW ct 0 mw 958 f_1)] ++ ws)) (ci := 11) (q0 := 0) hP hK hD hS hA hX rfl rfl) rfl rfl hl.1 rfl (lv_room (Nat.le_of_ble_eq_true rfl)) dX11_alone_13 ⟨Nat.le_of_ble_eq_true rfl, Nat.le_of_ble_eq_true rfl⟩) hP hD hS hA (fun u H locs hw_8 hP hD hS => ?_)
  obtain ⟨ws_9, men1_10, f1_11⟩ := u
  obtain ⟨hT, hp_12⟩ := hw_8
  have hp_12 : rf_d (f_1 8) f_1 f1_11 ∧ rf_R G (-1) f1_11 := hp_12
  obtain ⟨hd_13, hq_14⟩ := hp_12
  have hD_15 := rf_dt hD_6 hd_13
  have hR_16 := hq_14
  have hP : va_P D vwCl ([(rf_MO mo mw ma mf m0 m1 mu mv u0 u1 iz th mb mn mpt mbg mwr mwk mlf men1_10), (rf_RW ct 0 mw 958 f1_11)] ++ ws_9) H := hP
  have hD : va_D A ([(rf_MO mo mw ma mf m0 m1 mu mv u0 u1 iz th mb mn mpt mbg mwr mwk mlf men1_10), (rf_RW ct 0 mw 958 f1_11)] ++ ws_9) := hD
  exact W.vret hx hb hr (fun t ht hW => ⟨⟨(ws_9, men1_10, f1_11), rfl, ⟨hT, ⟨hD_15, hR_16⟩⟩, by rw [ht]; exact hP, by rw [hAe]; exact hD⟩, hS.F ht⟩) hS.2.2 dX11_alone_16
