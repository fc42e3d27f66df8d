theorem rf_rep {G f h : Nat → Int32} {c q : Int32} (hR : rf_R G (-1) f) (hc : 0 ≤ c.toInt ∧ c.toInt < (G 9).toInt) (b : rf_bg f h (244 + (54 * c)).toInt.toNat q) (hq : 0 ≤ q.toInt ∧ q.toInt ≤ (rf_of f c 12).toInt) : rf_R G (-1) h := by
  have h6 := rf_c6 hR hc
  have e1 := rf_ldp (c := c) (by omega)
  have e2 : (244 + (54 * c)).toInt.toNat = 244 + 54 * c.toInt.toNat := by omega
  rw [e2] at b
  obtain ⟨b1, b2, ⟨b3, b4, b5, b6, b7⟩, b8⟩ := b
  have hn := rf_nn hc
  have cap : rf_of f c 12 = G (244 + 54 * c.toInt.toNat + 12) := rf_caps hR hc
  have cap2 := (hR.1.2.2.2.2.2.2.2.2.1 c.toInt.toNat hn).2.1
  have cap3 : f (244 + 54 * c.toInt.toNat + 12) = G (244 + 54 * c.toInt.toNat + 12) := cap
  rw [cap] at hq
  refine rf_bcR hR rfl hn (fun j hj => b1 j hj) ⟨fun k k1 k2 => ?_, ⟨b3, b4, b5, by rw [b6]; omega, b7.trans cap3⟩, b8⟩
  rw [b2 k k1 k2]
  have hk := hR.2.2.2.2.1 c.toInt.toNat (by omega)
  rcases (by omega : k = 11 ∨ k = 12 ∨ k = 13 ∨ k = 14 ∨ k = 15) with e | e | e | e | e
  · subst e
    exact hk 11 (by omega) hn
  · subst e
    exact hk 12 (by omega) hn
  · subst e
    exact hk 13 (by omega) hn
  · subst e
    exact hk 14 (by omega) hn
  · subst e
    exact hk 15 (by omega) hn
theorem rf_n100 {y : Int32} (h : ¬ y < 100) : 100 ≤ y.toInt := rf_ge9 h (by decide)
theorem rf_m100 {y : Int32} (h : 100 ≤ y.toInt) : (y + Int32.ofInt (-100)).toInt = y.toInt - 100 := by
  have o : (Int32.ofInt (-100)).toInt = -100 := by decide
  have := y.toInt_lt
  rw [Jvm.Kit.i32_add (by rw [o]; omega) (by rw [o]; omega), o]
  omega
theorem dX11_replace_0 : decode cX11_replace 0 = .ok (.aload_n 0, 1) := by decide +kernel
theorem dX11_replace_1 : decode cX11_replace 1 = .ok (.iload_n 1, 1) := by decide +kernel
theorem dX11_replace_2 : decode cX11_replace 2 = .ok (.invokevirtual 344, 3) := by decide +kernel
theorem dX11_replace_5 : decode cX11_replace 5 = .ok (.ifCond .ne 33, 3) := by decide +kernel
theorem dX11_replace_8 : decode cX11_replace 8 = .ok (.aload_n 0, 1) := by decide +kernel
theorem dX11_replace_9 : decode cX11_replace 9 = .ok (.iload_n 2, 1) := by decide +kernel
theorem dX11_replace_10 : decode cX11_replace 10 = .ok (.i2l, 1) := by decide +kernel
theorem dX11_replace_11 : decode cX11_replace 11 = .ok (.lconst 0, 1) := by decide +kernel
theorem dX11_replace_12 : decode cX11_replace 12 = .ok (.aload_n 0, 1) := by decide +kernel
theorem dX11_replace_13 : decode cX11_replace 13 = .ok (.iload_n 1, 1) := by decide +kernel
theorem dX11_replace_14 : decode cX11_replace 14 = .ok (.bipush 12, 2) := by decide +kernel
theorem dX11_replace_16 : decode cX11_replace 16 = .ok (.invokevirtual 209, 3) := by decide +kernel
theorem dX11_replace_19 : decode cX11_replace 19 = .ok (.i2l, 1) := by decide +kernel
theorem dX11_replace_20 : decode cX11_replace 20 = .ok (.invokestatic 70, 3) := by decide +kernel
theorem dX11_replace_23 : decode cX11_replace 23 = .ok (.ifCond .ne 7, 3) := by decide +kernel
theorem dX11_replace_26 : decode cX11_replace 26 = .ok (.iconst 1, 1) := by decide +kernel
theorem dX11_replace_27 : decode cX11_replace 27 = .ok (.goto 4, 3) := by decide +kernel
theorem dX11_replace_30 : decode cX11_replace 30 = .ok (.iconst 0, 1) := by decide +kernel
theorem dX11_replace_31 : decode cX11_replace 31 = .ok (.iconst 2, 1) := by decide +kernel
theorem dX11_replace_32 : decode cX11_replace 32 = .ok (.invokevirtual 328, 3) := by decide +kernel
theorem dX11_replace_35 : decode cX11_replace 35 = .ok (.ifCond .eq 5, 3) := by decide +kernel
theorem dX11_replace_38 : decode cX11_replace 38 = .ok (.iconst 0, 1) := by decide +kernel
theorem dX11_replace_39 : decode cX11_replace 39 = .ok (.ireturn, 1) := by decide +kernel
theorem dX11_replace_40 : decode cX11_replace 40 = .ok (.aload_n 0, 1) := by decide +kernel
theorem dX11_replace_41 : decode cX11_replace 41 = .ok (.iload_n 1, 1) := by decide +kernel
theorem dX11_replace_42 : decode cX11_replace 42 = .ok (.iconst 1, 1) := by decide +kernel
theorem dX11_replace_43 : decode cX11_replace 43 = .ok (.invokevirtual 350, 3) := by decide +kernel
theorem dX11_replace_46 : decode cX11_replace 46 = .ok (.ifCond .ne 12, 3) := by decide +kernel
theorem dX11_replace_49 : decode cX11_replace 49 = .ok (.aload_n 0, 1) := by decide +kernel
theorem dX11_replace_50 : decode cX11_replace 50 = .ok (.iload_n 1, 1) := by decide +kernel
theorem dX11_replace_51 : decode cX11_replace 51 = .ok (.iconst 2, 1) := by decide +kernel
theorem dX11_replace_52 : decode cX11_replace 52 = .ok (.invokevirtual 350, 3) := by decide +kernel
theorem dX11_replace_55 : decode cX11_replace 55 = .ok (.ifCond .eq 6, 3) := by decide +kernel
theorem dX11_replace_58 : decode cX11_replace 58 = .ok (.bipush (-3), 2) := by decide +kernel
theorem dX11_replace_60 : decode cX11_replace 60 = .ok (.ireturn, 1) := by decide +kernel
theorem dX11_replace_61 : decode cX11_replace 61 = .ok (.aload_n 0, 1) := by decide +kernel
theorem dX11_replace_62 : decode cX11_replace 62 = .ok (.iload_n 1, 1) := by decide +kernel
theorem dX11_replace_63 : decode cX11_replace 63 = .ok (.bipush 6, 2) := by decide +kernel
theorem dX11_replace_65 : decode cX11_replace 65 = .ok (.invokevirtual 209, 3) := by decide +kernel
theorem dX11_replace_68 : decode cX11_replace 68 = .ok (.istore_n 3, 1) := by decide +kernel
theorem dX11_replace_69 : decode cX11_replace 69 = .ok (.aload_n 0, 1) := by decide +kernel
theorem dX11_replace_70 : decode cX11_replace 70 = .ok (.getfield 9, 3) := by decide +kernel
theorem dX11_replace_73 : decode cX11_replace 73 = .ok (.sipush 244, 3) := by decide +kernel
theorem dX11_replace_76 : decode cX11_replace 76 = .ok (.bipush 54, 2) := by decide +kernel
theorem dX11_replace_78 : decode cX11_replace 78 = .ok (.iload_n 1, 1) := by decide +kernel
theorem dX11_replace_79 : decode cX11_replace 79 = .ok (.imul, 1) := by decide +kernel
theorem dX11_replace_80 : decode cX11_replace 80 = .ok (.iadd, 1) := by decide +kernel
theorem dX11_replace_81 : decode cX11_replace 81 = .ok (.iload_n 2, 1) := by decide +kernel
theorem dX11_replace_82 : decode cX11_replace 82 = .ok (.invokestatic 201, 3) := by decide +kernel
theorem dX11_replace_85 : decode cX11_replace 85 = .ok (.iconst 0, 1) := by decide +kernel
theorem dX11_replace_86 : decode cX11_replace 86 = .ok (.istore 4, 2) := by decide +kernel
theorem dX11_replace_88 : decode cX11_replace 88 = .ok (.iload 4, 2) := by decide +kernel
theorem dX11_replace_90 : decode cX11_replace 90 = .ok (.bipush 7, 2) := by decide +kernel
theorem dX11_replace_92 : decode cX11_replace 92 = .ok (.if_icmp .ge 17, 3) := by decide +kernel
theorem dX11_replace_95 : decode cX11_replace 95 = .ok (.aload_n 0, 1) := by decide +kernel
theorem dX11_replace_96 : decode cX11_replace 96 = .ok (.iload_n 1, 1) := by decide +kernel
theorem dX11_replace_97 : decode cX11_replace 97 = .ok (.iload 4, 2) := by decide +kernel
theorem dX11_replace_99 : decode cX11_replace 99 = .ok (.lconst 0, 1) := by decide +kernel
theorem dX11_replace_100 : decode cX11_replace 100 = .ok (.invokevirtual 265, 3) := by decide +kernel
theorem dX11_replace_103 : decode cX11_replace 103 = .ok (.iinc 4 1, 3) := by decide +kernel
theorem dX11_replace_106 : decode cX11_replace 106 = .ok (.goto (-18), 3) := by decide +kernel
theorem dX11_replace_109 : decode cX11_replace 109 = .ok (.aload_n 0, 1) := by decide +kernel
theorem dX11_replace_110 : decode cX11_replace 110 = .ok (.iload_n 1, 1) := by decide +kernel
theorem dX11_replace_111 : decode cX11_replace 111 = .ok (.iconst 5, 1) := by decide +kernel
theorem dX11_replace_112 : decode cX11_replace 112 = .ok (.iconst 0, 1) := by decide +kernel
theorem dX11_replace_113 : decode cX11_replace 113 = .ok (.invokevirtual 282, 3) := by decide +kernel
theorem dX11_replace_116 : decode cX11_replace 116 = .ok (.iload_n 3, 1) := by decide +kernel
theorem dX11_replace_117 : decode cX11_replace 117 = .ok (.ireturn, 1) := by decide +kernel
set_option maxRecDepth 100000 in
set_option maxHeartbeats 4000000 in
theorem m_X11_replace (l : Launch) (D : va_G) (ct : Nat → ClassId) (S : ty_S) (ws : va_W) (ph : va_W → Prop) (xx : Nat → Nat → Nat → Prop) (mo : Nat) (mw : Nat) (ma : Nat) (mf : Nat) (m0 : Nat) (m1 : Nat) (mu : Nat) (mv : Nat) (u0 : Nat) (u1 : Nat) (iz : Nat) (mb : Nat) (th : Int32) (mn : Int32) (mpt : Int32) (mbg : Int32) (mwr : Int32) (mwk : Int32) (mlf : Int32) (men : Int32) (f : Nat → Int32) (G : Nat → Int32) (p1 : Int32) (p2 : Int32) (sz : Nat) (hT : ty_V ct S ph ws) (h_mu : S mu = some (.inr (1, 42))) (h_mv : S mv = some (.inr (1, 42))) (h_u0 : S u0 = some (.inr (1, 42))) (h_u1 : S u1 = some (.inr (1, 42))) (hph : ty_C ph xx) (hy1 : ty_y1 xx) (hy11 : ty_y0 xx 11) (hR : rf_R G (-1) f) : Met l yX11_replace (ws_ yX11_replace cX11_replace 5 (some .int)) ({ frames := 2, cells := 0, slots := 0, locals := 46 } : Room) (va_Pc [.ref mo, .int p1, .int p2] (cmP D ct sz ([(rf_MO mo mw ma mf m0 m1 mu mv u0 u1 iz th mb mn mpt mbg mwr mwk mlf men), (rf_RW ct 0 mw 958 f)] ++ ws))) (va_Qi (fun (r : Int32) (u : va_W × Int32 × (Nat → Int32)) => match u with | (u9, th1, f1) => ty_V ct S ph u9 ∧ rf_d (f 8) f f1 ∧ rf_R G (-1) f1) (cmB D ([(rf_MO mo mw ma mf m0 m1 mu mv u0 u1 iz th mb mn mpt mbg mwr mwk mlf men), (rf_RW ct 0 mw 958 f)] ++ ws) sz (fun (u : va_W × Int32 × (Nat → Int32)) => match u with | (u9, th1, f1) => ([(rf_MO mo mw ma mf m0 m1 mu mv u0 u1 iz th1 mb mn mpt mbg mwr mwk mlf men), (rf_RW ct 0 mw 958 f1)] ++ u9))) (va_A ([(rf_MO mo mw ma mf m0 m1 mu mv u0 u1 iz th mb mn mpt mbg mwr mwk mlf men), (rf_RW ct 0 mw 958 f)] ++ ws) sz)) 0 0 (va_A ([(rf_MO mo mw ma mf m0 m1 mu mv u0 u1 iz th mb mn mpt mbg mwr mwk mlf men), (rf_RW ct 0 mw 958 f)] ++ ws) sz) := by
  refine Met.ofW (cc := cX11_replace) (maxL := 5) (ret := (some .int)) (by decide) rfl ?_
  intro p e s m args below meth c s₁ B hml hv
  obtain ⟨rfl, hsz, hP, hK, hD0, hX⟩ := hv
  have hx := B.exec
  have hb := B.bytes
  have hr := B.returns
  have hts := ws_all (atoms_spec (ws := ws_ yX11_replace cX11_replace 5 (some .int)) B.pre)
  have hown : s.vm.findClass RX11 = some m.cls := findClass_of_methodNamed B.named
  have hlocks := B.notSynchronized
  subst hsz
  have hD := hD0.self (sz := s.heap.size)
  generalize hAe : va_A ([(rf_MO mo mw ma mf m0 m1 mu mv u0 u1 iz th mb mn mpt mbg mwr mwk mlf men), (rf_RW ct 0 mw 958 f)] ++ ws) s.heap.size = A at hD hX ⊢
  have hA : ∀ q : Nat, s.heap.size ≤ q → A q := fun q h => by rw [← hAe]; exact Or.inr h
  have hS : va_S A s.heap s.heap [] := va_S.rf
  have hl := lv_entry ([.ref mo, .int p1, .int p2]) (n := 5) (Nat.le_of_ble_eq_true rfl)
  rw [lg_entry_eq]
  generalize (lg_sl ([.ref mo, .int p1, .int p2]) ++ List.replicate (5 - (lg_sl ([.ref mo, .int p1, .int p2])).length) Slot.unset).toArray = ls at hl ⊢
  have hl : lv_has ls 5 [(0, .ref mo), (1, .int p1), (2, .int p2)] := hl
  refine lv_aload_n hx hb dX11_replace_0 rfl (lv_at hl 0 rfl) ?_
  refine lv_iload_n hx hb dX11_replace_1 rfl (lv_at hl 1 rfl) ?_
  refine ty_ki (wr := []) (wc := ([(rf_MO mo mw ma mf m0 m1 mu mv u0 u1 iz th mb mn mpt mbg mwr mwk mlf men), (rf_RW ct 0 mw 958 f)] ++ ws)) (va_runV (As := [.int p1]) (rest := []) ⟨hx, hb, hml, hown, hts⟩ (m_X11_noChannel l D ct S ws ph xx mo mw ma mf m0 m1 mu mv u0 u1 iz mb th mn mpt mbg mwr mwk mlf men f G (-1) p1 _ hT h_mu h_mv h_u0 h_u1 hph hy1 hR) (cm_V 1 hts kc_X11_noChannel ki_RX11 kl_RX11_344 kv_X11_noChannel kx_X11_noChannel kd_X11_noChannel ⟨Nat.le_of_ble_eq_true rfl, Nat.le_of_ble_eq_true rfl⟩) (ty_preE (wr := []) (wc := ([(rf_MO mo mw ma mf m0 m1 mu mv u0 u1 iz th mb mn mpt mbg mwr mwk mlf men), (rf_RW ct 0 mw 958 f)] ++ ws)) (ci := 11) (q0 := 0) hP hK hD hS hA hX rfl rfl) rfl rfl hl.1 rfl (lv_room (Nat.le_of_ble_eq_true rfl)) dX11_replace_2 ⟨Nat.le_of_ble_eq_true rfl, Nat.le_of_ble_eq_true rfl⟩) hP hD hS hA (fun r_1 u H locs hw_2 hP hD hS => ?_)
  obtain ⟨ws_3, th1_4⟩ := u
  obtain ⟨hT, hp_5⟩ := hw_2
  have hp_5 : ((r_1 = 0 ∧ 0 ≤ p1.toInt ∧ p1.toInt < (G 9).toInt) ∨ r_1 = 1) := hp_5
  have hP : va_P D vwCl ([(rf_MO mo mw ma mf m0 m1 mu mv u0 u1 iz th1_4 mb mn mpt mbg mwr mwk mlf men), (rf_RW ct 0 mw 958 f)] ++ ws_3) H := hP
  have hD : va_D A ([(rf_MO mo mw ma mf m0 m1 mu mv u0 u1 iz th1_4 mb mn mpt mbg mwr mwk mlf men), (rf_RW ct 0 mw 958 f)] ++ ws_3) := hD
  rcases hp_5 with ⟨rfl, hz_6⟩ | rfl
  · refine lv_if_ne (tgt := 38) hx hb dX11_replace_5 (by decide) (fun hc => absurd (by decide) hc) (fun _ => ?_)
    refine lv_aload_n hx hb dX11_replace_8 rfl (lv_at hl 0 rfl) ?_
    refine lv_iload_n hx hb dX11_replace_9 rfl (lv_at hl 2 rfl) ?_
    refine lv_i2l hx hb dX11_replace_10 rfl ?_
    refine lv_lconst (v := 0) hx hb dX11_replace_11 (by decide) ?_
    refine lv_aload_n hx hb dX11_replace_12 rfl (lv_at hl 0 rfl) ?_
    refine lv_iload_n hx hb dX11_replace_13 rfl (lv_at hl 1 rfl) ?_
    refine lv_bipush (v := 12) hx hb dX11_replace_14 (by decide) ?_
    refine ty_ki (wr := []) (wc := ([(rf_MO mo mw ma mf m0 m1 mu mv u0 u1 iz th1_4 mb mn mpt mbg mwr mwk mlf men), (rf_RW ct 0 mw 958 f)] ++ ws_3)) (va_runV (As := [.int p1, .int 12]) (rest := [.long 0, .long p2.toInt64, .ref mo]) ⟨hx, hb, hml, hown, hts⟩ (m_of_12 l D ct S ws_3 ph xx mo mw ma mf m0 m1 mu mv u0 u1 iz mb th1_4 mn mpt mbg mwr mwk mlf men f G (-1) p1 _ hT h_mu h_mv h_u0 h_u1 hph hy1 hR hz_6) (cm_V 2 hts kc_X11_of ki_RX11 kl_RX11_209 kv_X11_of kx_X11_of kd_X11_of ⟨Nat.le_of_ble_eq_true rfl, Nat.le_of_ble_eq_true rfl⟩) (ty_preE (wr := []) (wc := ([(rf_MO mo mw ma mf m0 m1 mu mv u0 u1 iz th1_4 mb mn mpt mbg mwr mwk mlf men), (rf_RW ct 0 mw 958 f)] ++ ws_3)) (ci := 11) (q0 := 0) hP hK hD hS hA hX rfl rfl) rfl rfl hl.1 rfl (lv_room (Nat.le_of_ble_eq_true rfl)) dX11_replace_16 ⟨Nat.le_of_ble_eq_true rfl, Nat.le_of_ble_eq_true rfl⟩) hP hD hS hA (fun r_7 u H locs hw_8 hP hD hS => ?_)
    obtain ⟨ws_9, rfl⟩ : ∃ z, z = u := ⟨_, rfl⟩
    obtain ⟨hT, rfl⟩ := hw_8
    have hP : va_P D vwCl ([(rf_MO mo mw ma mf m0 m1 mu mv u0 u1 iz th1_4 mb mn mpt mbg mwr mwk mlf men), (rf_RW ct 0 mw 958 f)] ++ ws_9) H := hP
    have hD : va_D A ([(rf_MO mo mw ma mf m0 m1 mu mv u0 u1 iz th1_4 mb mn mpt mbg mwr mwk mlf men), (rf_RW ct 0 mw 958 f)] ++ ws_9) := hD
    refine lv_i2l hx hb dX11_replace_19 rfl ?_
    refine ty_ki (wr := [(rf_MO mo mw ma mf m0 m1 mu mv u0 u1 iz th1_4 mb mn mpt mbg mwr mwk mlf men), (rf_RW ct 0 mw 958 f)]) (wc := ([] ++ ws_9)) (va_runS (As := [.long p2.toInt64, .long 0, .long ((rf_of f p1 12).toInt64)]) (rest := [.ref mo]) ⟨hx, hb, hml, hown, hts⟩ (m_X11_in l D ct S ws_9 ph xx p2.toInt64 (0 : Int64) ((rf_of f p1 12).toInt64) _ hT hph hy1) (cm_S 3 hts kc_X11_in ki_RX11 kl_RX11_70 ks_X11_in kd_X11_in ⟨Nat.le_of_ble_eq_true rfl, Nat.le_of_ble_eq_true rfl⟩) (ty_preS (wr := [(rf_MO mo mw ma mf m0 m1 mu mv u0 u1 iz th1_4 mb mn mpt mbg mwr mwk mlf men), (rf_RW ct 0 mw 958 f)]) (wc := ([] ++ ws_9)) hP hK hD hS hA hX) rfl rfl hl.1 rfl (lv_room (Nat.le_of_ble_eq_true rfl)) dX11_replace_20 ⟨Nat.le_of_ble_eq_true rfl, Nat.le_of_ble_eq_true rfl⟩) hP hD hS hA (fun r_10 u H locs hw_11 hP hD hS => ?_)
    obtain ⟨ws_12, rfl⟩ : ∃ z, z = u := ⟨_, rfl⟩
    obtain ⟨hT, rfl⟩ := hw_11
    have hP : va_P D vwCl ([(rf_MO mo mw ma mf m0 m1 mu mv u0 u1 iz th1_4 mb mn mpt mbg mwr mwk mlf men), (rf_RW ct 0 mw 958 f)] ++ ws_12) H := hP
    have hD : va_D A ([(rf_MO mo mw ma mf m0 m1 mu mv u0 u1 iz th1_4 mb mn mpt mbg mwr mwk mlf men), (rf_RW ct 0 mw 958 f)] ++ ws_12) := hD
    refine lv_if_ne (tgt := 30) hx hb dX11_replace_23 (by decide) (fun hc_13 => ?_) (fun hc_13 => ?_)
    · refine lv_iconst (v := 0) hx hb dX11_replace_30 (by decide) ?_
      refine lv_iconst (v := 2) hx hb dX11_replace_31 (by decide) ?_
      have hP : va_P D vwCl ([(rf_RW ct 0 mw 958 f), (rf_MO mo mw ma mf m0 m1 mu mv u0 u1 iz th1_4 mb mn mpt mbg mwr mwk mlf men)] ++ ws_12) H := ty_permP hP (ty_ordp (E := [(rf_MO mo mw ma mf m0 m1 mu mv u0 u1 iz th1_4 mb mn mpt mbg mwr mwk mlf men), (rf_RW ct 0 mw 958 f)]) (E2 := [(rf_RW ct 0 mw 958 f), (rf_MO mo mw ma mf m0 m1 mu mv u0 u1 iz th1_4 mb mn mpt mbg mwr mwk mlf men)]) (n := 2) [1, 0] rfl rfl (by decide))
      have hD : va_D A ([(rf_RW ct 0 mw 958 f), (rf_MO mo mw ma mf m0 m1 mu mv u0 u1 iz th1_4 mb mn mpt mbg mwr mwk mlf men)] ++ ws_12) := ty_permD hD (ty_ordp (E := [(rf_MO mo mw ma mf m0 m1 mu mv u0 u1 iz th1_4 mb mn mpt mbg mwr mwk mlf men), (rf_RW ct 0 mw 958 f)]) (E2 := [(rf_RW ct 0 mw 958 f), (rf_MO mo mw ma mf m0 m1 mu mv u0 u1 iz th1_4 mb mn mpt mbg mwr mwk mlf men)]) (n := 2) [1, 0] rfl rfl (by decide))
      refine ty_ki (wr := [(rf_RW ct 0 mw 958 f)]) (wc := ([(rf_MO mo mw ma mf m0 m1 mu mv u0 u1 iz th1_4 mb mn mpt mbg mwr mwk mlf men)] ++ ws_12)) (va_runV (As := [.int 0, .int 2]) (rest := []) ⟨hx, hb, hml, hown, hts⟩ (m_X11_throwsIf l D ct S ws_12 ph xx mo mw ma mf m0 m1 mu mv u0 u1 iz mb th1_4 mn mpt mbg mwr mwk mlf men (0 : Int32) (2 : Int32) _ hT h_mu h_mv h_u0 h_u1 hph hy1 (by decide)) (cm_V 2 hts kc_X11_throwsIf ki_RX11 kl_RX11_328 kv_X11_throwsIf kx_X11_throwsIf kd_X11_throwsIf ⟨Nat.le_of_ble_eq_true rfl, Nat.le_of_ble_eq_true rfl⟩) (ty_preE (wr := [(rf_RW ct 0 mw 958 f)]) (wc := ([(rf_MO mo mw ma mf m0 m1 mu mv u0 u1 iz th1_4 mb mn mpt mbg mwr mwk mlf men)] ++ ws_12)) (ci := 11) (q0 := 1) hP hK hD hS hA hX rfl rfl) rfl rfl hl.1 rfl (lv_room (Nat.le_of_ble_eq_true rfl)) dX11_replace_32 ⟨Nat.le_of_ble_eq_true rfl, Nat.le_of_ble_eq_true rfl⟩) hP hD hS hA (fun r_14 u H locs hw_15 hP hD hS => ?_)
      obtain ⟨ws_16, th1_17⟩ := u
      obtain ⟨hT, hp_18⟩ := hw_15
      have hp_18 : ((r_14 = 0 ∧ (0 : Int32) = 0) ∨ r_14 = 1) := hp_18
      have hP : va_P D vwCl ([(rf_RW ct 0 mw 958 f), (rf_MO mo mw ma mf m0 m1 mu mv u0 u1 iz th1_17 mb mn mpt mbg mwr mwk mlf men)] ++ ws_16) H := hP
      have hD : va_D A ([(rf_RW ct 0 mw 958 f), (rf_MO mo mw ma mf m0 m1 mu mv u0 u1 iz th1_17 mb mn mpt mbg mwr mwk mlf men)] ++ ws_16) := hD
      rcases hp_18 with ⟨rfl, hz_19⟩ | rfl
      · refine lv_if_eq (tgt := 40) hx hb dX11_replace_35 (by decide) (fun _ => ?_) (fun hc => absurd (by decide) hc)
        refine lv_aload_n hx hb dX11_replace_40 rfl (lv_at hl 0 rfl) ?_
        refine lv_iload_n hx hb dX11_replace_41 rfl (lv_at hl 1 rfl) ?_
        refine lv_iconst (v := 1) hx hb dX11_replace_42 (by decide) ?_
        have hP : va_P D vwCl ([(rf_MO mo mw ma mf m0 m1 mu mv u0 u1 iz th1_17 mb mn mpt mbg mwr mwk mlf men), (rf_RW ct 0 mw 958 f)] ++ ws_16) H := ty_permP hP (ty_ordp (E := [(rf_RW ct 0 mw 958 f), (rf_MO mo mw ma mf m0 m1 mu mv u0 u1 iz th1_17 mb mn mpt mbg mwr mwk mlf men)]) (E2 := [(rf_MO mo mw ma mf m0 m1 mu mv u0 u1 iz th1_17 mb mn mpt mbg mwr mwk mlf men), (rf_RW ct 0 mw 958 f)]) (n := 2) [1, 0] rfl rfl (by decide))
        have hD : va_D A ([(rf_MO mo mw ma mf m0 m1 mu mv u0 u1 iz th1_17 mb mn mpt mbg mwr mwk mlf men), (rf_RW ct 0 mw 958 f)] ++ ws_16) := ty_permD hD (ty_ordp (E := [(rf_RW ct 0 mw 958 f), (rf_MO mo mw ma mf m0 m1 mu mv u0 u1 iz th1_17 mb mn mpt mbg mwr mwk mlf men)]) (E2 := [(rf_MO mo mw ma mf m0 m1 mu mv u0 u1 iz th1_17 mb mn mpt mbg mwr mwk mlf men), (rf_RW ct 0 mw 958 f)]) (n := 2) [1, 0] rfl rfl (by decide))
        refine ty_ki (wr := []) (wc := ([(rf_MO mo mw ma mf m0 m1 mu mv u0 u1 iz th1_17 mb mn mpt mbg mwr mwk mlf men), (rf_RW ct 0 mw 958 f)] ++ ws_16)) (va_runV (As := [.int p1, .int 1]) (rest := []) ⟨hx, hb, hml, hown, hts⟩ (m_X11_isIn l D ct S ws_16 ph xx mo mw ma mf m0 m1 mu mv u0 u1 iz mb th1_17 mn mpt mbg mwr mwk mlf men f G (-1) p1 (1 : Int32) _ hT h_mu h_mv h_u0 h_u1 hph hy1 hR hz_6) (cm_V 2 hts kc_X11_isIn ki_RX11 kl_RX11_350 kv_X11_isIn kx_X11_isIn kd_X11_isIn ⟨Nat.le_of_ble_eq_true rfl, Nat.le_of_ble_eq_true rfl⟩) (ty_preE (wr := []) (wc := ([(rf_MO mo mw ma mf m0 m1 mu mv u0 u1 iz th1_17 mb mn mpt mbg mwr mwk mlf men), (rf_RW ct 0 mw 958 f)] ++ ws_16)) (ci := 11) (q0 := 0) hP hK hD hS hA hX rfl rfl) rfl rfl hl.1 rfl (lv_room (Nat.le_of_ble_eq_true rfl)) dX11_replace_43 ⟨Nat.le_of_ble_eq_true rfl, Nat.le_of_ble_eq_true rfl⟩) hP hD hS hA (fun r_20 u H locs hw_21 hP hD hS => ?_)
        obtain ⟨ws_22, rfl⟩ : ∃ z, z = u := ⟨_, rfl⟩
        obtain ⟨hT, hp_23⟩ := hw_21
        have hp_23 : ((r_20 = 0 ∧ ¬ rf_of f p1 0 = (1 : Int32)) ∨ (r_20 = 1 ∧ rf_of f p1 0 = (1 : Int32))) := hp_23
        have hP : va_P D vwCl ([(rf_MO mo mw ma mf m0 m1 mu mv u0 u1 iz th1_17 mb mn mpt mbg mwr mwk mlf men), (rf_RW ct 0 mw 958 f)] ++ ws_22) H := hP
        have hD : va_D A ([(rf_MO mo mw ma mf m0 m1 mu mv u0 u1 iz th1_17 mb mn mpt mbg mwr mwk mlf men), (rf_RW ct 0 mw 958 f)] ++ ws_22) := hD
        rcases hp_23 with ⟨rfl, hz_24⟩ | ⟨rfl, hz_25⟩
        · refine lv_if_ne (tgt := 58) hx hb dX11_replace_46 (by decide) (fun hc => absurd (by decide) hc) (fun _ => ?_)
          refine lv_aload_n hx hb dX11_replace_49 rfl (lv_at hl 0 rfl) ?_
          refine lv_iload_n hx hb dX11_replace_50 rfl (lv_at hl 1 rfl) ?_
          refine lv_iconst (v := 2) hx hb dX11_replace_51 (by decide) ?_
          refine ty_ki (wr := []) (wc := ([(rf_MO mo mw ma mf m0 m1 mu mv u0 u1 iz th1_17 mb mn mpt mbg mwr mwk mlf men), (rf_RW ct 0 mw 958 f)] ++ ws_22)) (va_runV (As := [.int p1, .int 2]) (rest := []) ⟨hx, hb, hml, hown, hts⟩ (m_X11_isIn l D ct S ws_22 ph xx mo mw ma mf m0 m1 mu mv u0 u1 iz mb th1_17 mn mpt mbg mwr mwk mlf men f G (-1) p1 (2 : Int32) _ hT h_mu h_mv h_u0 h_u1 hph hy1 hR hz_6) (cm_V 2 hts kc_X11_isIn ki_RX11 kl_RX11_350 kv_X11_isIn kx_X11_isIn kd_X11_isIn ⟨Nat.le_of_ble_eq_true rfl, Nat.le_of_ble_eq_true rfl⟩) (ty_preE (wr := []) (wc := ([(rf_MO mo mw ma mf m0 m1 mu mv u0 u1 iz th1_17 mb mn mpt mbg mwr mwk mlf men), (rf_RW ct 0 mw 958 f)] ++ ws_22)) (ci := 11) (q0 := 0) hP hK hD hS hA hX rfl rfl) rfl rfl hl.1 rfl (lv_room (Nat.le_of_ble_eq_true rfl)) dX11_replace_52 ⟨Nat.le_of_ble_eq_true rfl, Nat.le_of_ble_eq_true rfl⟩) hP hD hS hA (fun r_26 u H locs hw_27 hP hD hS => ?_)
          obtain ⟨ws_28, rfl⟩ : ∃ z, z = u := ⟨_, rfl⟩
          obtain ⟨hT, hp_29⟩ := hw_27
          have hp_29 : ((r_26 = 0 ∧ ¬ rf_of f p1 0 = (2 : Int32)) ∨ (r_26 = 1 ∧ rf_of f p1 0 = (2 : Int32))) := hp_29
          have hP : va_P D vwCl ([(rf_MO mo mw ma mf m0 m1 mu mv u0 u1 iz th1_17 mb mn mpt mbg mwr mwk mlf men), (rf_RW ct 0 mw 958 f)] ++ ws_28) H := hP
          have hD : va_D A ([(rf_MO mo mw ma mf m0 m1 mu mv u0 u1 iz th1_17 mb mn mpt mbg mwr mwk mlf men), (rf_RW ct 0 mw 958 f)] ++ ws_28) := hD
          rcases hp_29 with ⟨rfl, hz_30⟩ | ⟨rfl, hz_31⟩
          · refine lv_if_eq (tgt := 61) hx hb dX11_replace_55 (by decide) (fun _ => ?_) (fun hc => absurd (by decide) hc)
            refine lv_aload_n hx hb dX11_replace_61 rfl (lv_at hl 0 rfl) ?_
            refine lv_iload_n hx hb dX11_replace_62 rfl (lv_at hl 1 rfl) ?_
            refine lv_bipush (v := 6) hx hb dX11_replace_63 (by decide) ?_
            refine ty_ki (wr := []) (wc := ([(rf_MO mo mw ma mf m0 m1 mu mv u0 u1 iz th1_17 mb mn mpt mbg mwr mwk mlf men), (rf_RW ct 0 mw 958 f)] ++ ws_28)) (va_runV (As := [.int p1, .int 6]) (rest := []) ⟨hx, hb, hml, hown, hts⟩ (m_of_6 l D ct S ws_28 ph xx mo mw ma mf m0 m1 mu mv u0 u1 iz mb th1_17 mn mpt mbg mwr mwk mlf men f G (-1) p1 _ hT h_mu h_mv h_u0 h_u1 hph hy1 hR hz_6) (cm_V 2 hts kc_X11_of ki_RX11 kl_RX11_209 kv_X11_of kx_X11_of kd_X11_of ⟨Nat.le_of_ble_eq_true rfl, Nat.le_of_ble_eq_true rfl⟩) (ty_preE (wr := []) (wc := ([(rf_MO mo mw ma mf m0 m1 mu mv u0 u1 iz th1_17 mb mn mpt mbg mwr mwk mlf men), (rf_RW ct 0 mw 958 f)] ++ ws_28)) (ci := 11) (q0 := 0) hP hK hD hS hA hX rfl rfl) rfl rfl hl.1 rfl (lv_room (Nat.le_of_ble_eq_true rfl)) dX11_replace_65 ⟨Nat.le_of_ble_eq_true rfl, Nat.le_of_ble_eq_true rfl⟩) hP hD hS hA (fun r_32 u H locs hw_33 hP hD hS => ?_)
            obtain ⟨ws_34, rfl⟩ : ∃ z, z = u := ⟨_, rfl⟩
            obtain ⟨hT, rfl⟩ := hw_33
            have hP : va_P D vwCl ([(rf_MO mo mw ma mf m0 m1 mu mv u0 u1 iz th1_17 mb mn mpt mbg mwr mwk mlf men), (rf_RW ct 0 mw 958 f)] ++ ws_34) H := hP
            have hD : va_D A ([(rf_MO mo mw ma mf m0 m1 mu mv u0 u1 iz th1_17 mb mn mpt mbg mwr mwk mlf men), (rf_RW ct 0 mw 958 f)] ++ ws_34) := hD
            refine lv_istore_n (lv' := [(3, .int (rf_of f p1 6)), (0, .ref mo), (1, .int p1), (2, .int p2)]) hx hb dX11_replace_68 rfl hl (by decide) rfl (fun ls hl => ?_)
            refine lv_aload_n hx hb dX11_replace_69 rfl (lv_at hl 1 rfl) ?_
            refine va_get (v := .ref mw) (D := D) (ci := 11) (C := RX11) (T := TX11) (N := 19) hx hb hts in_X11 hown hK hP 0 rfl rfl 0 (by decide) (hts _ kl_RX11_9) (fun _ h9 => h9) rfl dX11_replace_70 ?_
            refine lv_sipush (v := 244) hx hb dX11_replace_73 (by decide) ?_
            refine lv_bipush (v := 54) hx hb dX11_replace_76 (by decide) ?_
            refine lv_iload_n hx hb dX11_replace_78 rfl (lv_at hl 2 rfl) ?_
            refine lv_imul hx hb dX11_replace_79 ?_
            refine lv_iadd hx hb dX11_replace_80 ?_
            refine lv_iload_n hx hb dX11_replace_81 rfl (lv_at hl 3 rfl) ?_
            refine ty_kv (wr := [(rf_MO mo mw ma mf m0 m1 mu mv u0 u1 iz th1_17 mb mn mpt mbg mwr mwk mlf men)]) (wc := ([(rf_RW ct 0 mw 958 f)] ++ ws_34)) (va_runS (As := [.ref mw, .int (244 + (54 * p1)), .int p2]) (rest := []) ⟨hx, hb, hml, hown, hts⟩ (m_begins l D ct S ws_34 ph xx mw (244 + (54 * p1)) p2 f _ hT hph hy1 (by have := rf_c6 hR hz_6; have e70 := rf_ldp (c := p1) (by omega); omega)) (cm_S 3 hts kc_X11_begins ki_RX11 kl_RX11_201 ks_X11_begins kd_X11_begins ⟨Nat.le_of_ble_eq_true rfl, Nat.le_of_ble_eq_true rfl⟩) (ty_preS (wr := [(rf_MO mo mw ma mf m0 m1 mu mv u0 u1 iz th1_17 mb mn mpt mbg mwr mwk mlf men)]) (wc := ([(rf_RW ct 0 mw 958 f)] ++ ws_34)) hP hK hD hS hA hX) rfl rfl hl.1 rfl (lv_room (Nat.le_of_ble_eq_true rfl)) dX11_replace_82 ⟨Nat.le_of_ble_eq_true rfl, Nat.le_of_ble_eq_true rfl⟩) hP hD hS hA (fun u H locs hw_36 hP hD hS => ?_)
            obtain ⟨ws_37, h_38⟩ := u
            obtain ⟨hT, hp_39⟩ := hw_36
            have hp_39 : rf_bg f h_38 (244 + (54 * p1)).toInt.toNat p2 := hp_39
            have hP : va_P D vwCl ([(rf_MO mo mw ma mf m0 m1 mu mv u0 u1 iz th1_17 mb mn mpt mbg mwr mwk mlf men), (rf_RW ct 0 mw 958 h_38)] ++ ws_37) H := hP
            have hD : va_D A ([(rf_MO mo mw ma mf m0 m1 mu mv u0 u1 iz th1_17 mb mn mpt mbg mwr mwk mlf men), (rf_RW ct 0 mw 958 h_38)] ++ ws_37) := hD
            have hR_40 : rf_R G (-1) h_38 := rf_rep hR hz_6 hp_39 (by have := rf_rng hc_13; rw [Jvm.Kit.i64_of_i32, Jvm.Kit.i64_of_i32, show (0 : Int64).toInt = 0 from by decide] at this; exact this)
            have hD_41 : rf_d (f 8) f h_38 := (hp_39.1 8 (Or.inl (by have := rf_c6 hR hz_6; have e70 := rf_ldp (c := p1) (by omega); omega))).trans (rf_dr f)
            refine lv_iconst (v := 0) hx hb dX11_replace_85 (by decide) ?_
            refine lv_istore (lv' := [(4, .int 0), (3, .int (rf_of f p1 6)), (0, .ref mo), (1, .int p1), (2, .int p2)]) hx hb dX11_replace_86 hl (by decide) rfl (fun ls hl => ?_)
            refine ty_loop (I := fun μ H locs ls => ∃ (ws : va_W) (y_42 : Int32), μ = (2147483648 - y_42.toInt).toNat ∧ ty_V ct S ph ws ∧ va_P D vwCl ([(rf_MO mo mw ma mf m0 m1 mu mv u0 u1 iz th1_17 mb mn mpt mbg mwr mwk mlf men), (rf_RW ct 0 mw 958 h_38)] ++ ws) H ∧ va_D A ([(rf_MO mo mw ma mf m0 m1 mu mv u0 u1 iz th1_17 mb mn mpt mbg mwr mwk mlf men), (rf_RW ct 0 mw 958 h_38)] ++ ws) ∧ va_S A s.heap H locs ∧ lv_has ls 5 [(0, .ref mo), (1, .int p1), (2, .int p2), (3, .int (rf_of f p1 6)), (4, .int y_42)] ∧ 0 ≤ y_42.toInt) ⟨_, ws_37, (0 : Int32), rfl, hT, hP, hD, hS, (lv_sub hl [2, 3, 4, 1, 0] rfl), (by decide)⟩ (fun μ H locs ls hI ih_88 => ?_)
            obtain ⟨ws, y_42, rfl, hT, hP, hD, hS, hl, hex_88⟩ := hI
            refine lv_iload hx hb dX11_replace_88 (lv_at hl 4 rfl) ?_
            refine lv_bipush (v := 7) hx hb dX11_replace_90 (by decide) ?_
            refine lv_icmp_ge (tgt := 109) hx hb dX11_replace_92 (by decide) (fun hc_43 => ?_) (fun hc_43 => ?_)
            · refine lv_aload_n hx hb dX11_replace_109 rfl (lv_at hl 0 rfl) ?_
              refine lv_iload_n hx hb dX11_replace_110 rfl (lv_at hl 1 rfl) ?_
              refine lv_iconst (v := 5) hx hb dX11_replace_111 (by decide) ?_
              refine lv_iconst (v := 0) hx hb dX11_replace_112 (by decide) ?_
              refine ty_kv (wr := []) (wc := ([(rf_MO mo mw ma mf m0 m1 mu mv u0 u1 iz th1_17 mb mn mpt mbg mwr mwk mlf men), (rf_RW ct 0 mw 958 h_38)] ++ ws)) (va_runV (As := [.int p1, .int 5, .int 0]) (rest := []) ⟨hx, hb, hml, hown, hts⟩ (m_X11_notes l D ct S ws ph xx mo mw ma mf m0 m1 mu mv u0 u1 iz mb th1_17 mn mpt mbg mwr mwk mlf men h_38 G (-1) p1 (5 : Int32) (0 : Int32) _ hT h_mu h_mv h_u0 h_u1 hph hy1 hR_40) (cm_V 3 hts kc_X11_notes ki_RX11 kl_RX11_282 kv_X11_notes kx_X11_notes kd_X11_notes ⟨Nat.le_of_ble_eq_true rfl, Nat.le_of_ble_eq_true rfl⟩) (ty_preE (wr := []) (wc := ([(rf_MO mo mw ma mf m0 m1 mu mv u0 u1 iz th1_17 mb mn mpt mbg mwr mwk mlf men), (rf_RW ct 0 mw 958 h_38)] ++ ws)) (ci := 11) (q0 := 0) hP hK hD hS hA hX rfl rfl) rfl rfl hl.1 rfl (lv_room (Nat.le_of_ble_eq_true rfl)) dX11_replace_113 ⟨Nat.le_of_ble_eq_true rfl, Nat.le_of_ble_eq_true rfl⟩) hP hD hS hA (fun u H locs hw_45 hP hD hS => ?_)
              obtain ⟨ws_46, f1_47⟩ := u
              obtain ⟨hT, hp_48⟩ := hw_45
              have hp_48 : rf_d (h_38 8) h_38 f1_47 ∧ rf_R G (-1) f1_47 ∧ rf_sm h_38 f1_47 := hp_48
              obtain ⟨hd_49, hq_50⟩ := hp_48
              have hD_51 := rf_dt hD_41 hd_49
              have hR_52 := hq_50.1
              have hP : va_P D vwCl ([(rf_MO mo mw ma mf m0 m1 mu mv u0 u1 iz th1_17 mb mn mpt mbg mwr mwk mlf men), (rf_RW ct 0 mw 958 f1_47)] ++ ws_46) H := hP
              have hD : va_D A ([(rf_MO mo mw ma mf m0 m1 mu mv u0 u1 iz th1_17 mb mn mpt mbg mwr mwk mlf men), (rf_RW ct 0 mw 958 f1_47)] ++ ws_46) := hD
              refine lv_iload_n hx hb dX11_replace_116 rfl (lv_at hl 3 rfl) ?_
              exact W.iret (v := (rf_of f p1 6)) hx hb hr (fun t ht hW => ⟨⟨(rf_of f p1 6), (ws_46, th1_17, f1_47), rfl, ⟨hT, ⟨hD_51, hR_52⟩⟩, by rw [ht]; exact hP, by rw [hAe]; exact hD⟩, hS.F ht⟩) hS.2.2 dX11_replace_117
            · refine lv_aload_n hx hb dX11_replace_95 rfl (lv_at hl 0 rfl) ?_
              refine lv_iload_n hx hb dX11_replace_96 rfl (lv_at hl 1 rfl) ?_
              refine lv_iload hx hb dX11_replace_97 (lv_at hl 4 rfl) ?_
              refine lv_lconst (v := 0) hx hb dX11_replace_99 (by decide) ?_
              have hP : va_P D vwCl ([(rf_RW ct 0 mw 958 h_38), (rf_MO mo mw ma mf m0 m1 mu mv u0 u1 iz th1_17 mb mn mpt mbg mwr mwk mlf men)] ++ ws) H := ty_permP hP (ty_ordp (E := [(rf_MO mo mw ma mf m0 m1 mu mv u0 u1 iz th1_17 mb mn mpt mbg mwr mwk mlf men), (rf_RW ct 0 mw 958 h_38)]) (E2 := [(rf_RW ct 0 mw 958 h_38), (rf_MO mo mw ma mf m0 m1 mu mv u0 u1 iz th1_17 mb mn mpt mbg mwr mwk mlf men)]) (n := 2) [1, 0] rfl rfl (by decide))
              have hD : va_D A ([(rf_RW ct 0 mw 958 h_38), (rf_MO mo mw ma mf m0 m1 mu mv u0 u1 iz th1_17 mb mn mpt mbg mwr mwk mlf men)] ++ ws) := ty_permD hD (ty_ordp (E := [(rf_MO mo mw ma mf m0 m1 mu mv u0 u1 iz th1_17 mb mn mpt mbg mwr mwk mlf men), (rf_RW ct 0 mw 958 h_38)]) (E2 := [(rf_RW ct 0 mw 958 h_38), (rf_MO mo mw ma mf m0 m1 mu mv u0 u1 iz th1_17 mb mn mpt mbg mwr mwk mlf men)]) (n := 2) [1, 0] rfl rfl (by decide))
              refine ty_kv (wr := [(rf_RW ct 0 mw 958 h_38)]) (wc := ([(rf_MO mo mw ma mf m0 m1 mu mv u0 u1 iz th1_17 mb mn mpt mbg mwr mwk mlf men)] ++ ws)) (va_runV (As := [.int p1, .int y_42, .long 0]) (rest := []) ⟨hx, hb, hml, hown, hts⟩ (m_X11_putSum l D ct S ws ph xx mo mw ma mf m0 m1 mu mv u0 u1 iz mb th1_17 mn mpt mbg mwr mwk mlf men p1 y_42 (0 : Int64) _ hT h_mu h_mv h_u0 h_u1 hph hy1 hy11 (rf_c6 hR_40 hz_6) (by have := hex_88; have := rf_ng (b := 7) (by decide) hc_43; omega)) (cm_V 3 hts kc_X11_putSum ki_RX11 kl_RX11_265 kv_X11_putSum kx_X11_putSum kd_X11_putSum ⟨Nat.le_of_ble_eq_true rfl, Nat.le_of_ble_eq_true rfl⟩) (ty_preE (wr := [(rf_RW ct 0 mw 958 h_38)]) (wc := ([(rf_MO mo mw ma mf m0 m1 mu mv u0 u1 iz th1_17 mb mn mpt mbg mwr mwk mlf men)] ++ ws)) (ci := 11) (q0 := 1) hP hK hD hS hA hX rfl rfl) rfl rfl hl.1 rfl (lv_room (Nat.le_of_ble_eq_true rfl)) dX11_replace_100 ⟨Nat.le_of_ble_eq_true rfl, Nat.le_of_ble_eq_true rfl⟩) hP hD hS hA (fun u H locs hw_55 hP hD hS => ?_)
              obtain ⟨ws_56, rfl⟩ : ∃ z, z = u := ⟨_, rfl⟩
              have hT := hw_55
              have hP : va_P D vwCl ([(rf_RW ct 0 mw 958 h_38), (rf_MO mo mw ma mf m0 m1 mu mv u0 u1 iz th1_17 mb mn mpt mbg mwr mwk mlf men)] ++ ws_56) H := hP
              have hD : va_D A ([(rf_RW ct 0 mw 958 h_38), (rf_MO mo mw ma mf m0 m1 mu mv u0 u1 iz th1_17 mb mn mpt mbg mwr mwk mlf men)] ++ ws_56) := hD
              refine lv_iinc (v := (y_42 + Int32.ofInt 1)) (lv' := [(4, .int (y_42 + Int32.ofInt 1)), (0, .ref mo), (1, .int p1), (2, .int p2), (3, .int (rf_of f p1 6))]) hx hb dX11_replace_103 hl (k := 4) rfl rfl (by decide) rfl (fun ls hl => ?_)
              refine lv_goto (tgt := 88) hx hb dX11_replace_106 (by decide) ?_
              have hP : va_P D vwCl ([(rf_MO mo mw ma mf m0 m1 mu mv u0 u1 iz th1_17 mb mn mpt mbg mwr mwk mlf men), (rf_RW ct 0 mw 958 h_38)] ++ ws_56) H := ty_permP hP (ty_ordp (E := [(rf_RW ct 0 mw 958 h_38), (rf_MO mo mw ma mf m0 m1 mu mv u0 u1 iz th1_17 mb mn mpt mbg mwr mwk mlf men)]) (E2 := [(rf_MO mo mw ma mf m0 m1 mu mv u0 u1 iz th1_17 mb mn mpt mbg mwr mwk mlf men), (rf_RW ct 0 mw 958 h_38)]) (n := 2) [1, 0] rfl rfl (by decide))
              have hD : va_D A ([(rf_MO mo mw ma mf m0 m1 mu mv u0 u1 iz th1_17 mb mn mpt mbg mwr mwk mlf men), (rf_RW ct 0 mw 958 h_38)] ++ ws_56) := ty_permD hD (ty_ordp (E := [(rf_RW ct 0 mw 958 h_38), (rf_MO mo mw ma mf m0 m1 mu mv u0 u1 iz th1_17 mb mn mpt mbg mwr mwk mlf men)]) (E2 := [(rf_MO mo mw ma mf m0 m1 mu mv u0 u1 iz th1_17 mb mn mpt mbg mwr mwk mlf men), (rf_RW ct 0 mw 958 h_38)]) (n := 2) [1, 0] rfl rfl (by decide))
              exact ih_88 _ _ _ _ (ty_inc (cm_lt hc_43)) ⟨ws_56, (y_42 + Int32.ofInt 1), rfl, hT, hP, hD, hS, (lv_sub hl [1, 2, 3, 4, 0] rfl), (ty_nn hex_88 (cm_lt hc_43))⟩
          · refine lv_if_eq (tgt := 61) hx hb dX11_replace_55 (by decide) (fun hc => absurd hc (by decide)) (fun _ => ?_)
            refine lv_bipush (v := (-3)) hx hb dX11_replace_58 (by decide) ?_
            exact W.iret (v := (-3)) hx hb hr (fun t ht hW => ⟨⟨(-3), (ws_28, th1_17, f), rfl, ⟨hT, ⟨(rf_dr f), hR⟩⟩, by rw [ht]; exact hP, by rw [hAe]; exact hD⟩, hS.F ht⟩) hS.2.2 dX11_replace_60
        · refine lv_if_ne (tgt := 58) hx hb dX11_replace_46 (by decide) (fun _ => ?_) (fun hc => absurd hc (by decide))
          refine lv_bipush (v := (-3)) hx hb dX11_replace_58 (by decide) ?_
          exact W.iret (v := (-3)) hx hb hr (fun t ht hW => ⟨⟨(-3), (ws_22, th1_17, f), rfl, ⟨hT, ⟨(rf_dr f), hR⟩⟩, by rw [ht]; exact hP, by rw [hAe]; exact hD⟩, hS.F ht⟩) hS.2.2 dX11_replace_60
      · refine lv_if_eq (tgt := 40) hx hb dX11_replace_35 (by decide) (fun hc => absurd hc (by decide)) (fun _ => ?_)
        refine lv_iconst (v := 0) hx hb dX11_replace_38 (by decide) ?_
        have hP : va_P D vwCl ([(rf_MO mo mw ma mf m0 m1 mu mv u0 u1 iz th1_17 mb mn mpt mbg mwr mwk mlf men), (rf_RW ct 0 mw 958 f)] ++ ws_16) H := ty_permP hP (ty_ordp (E := [(rf_RW ct 0 mw 958 f), (rf_MO mo mw ma mf m0 m1 mu mv u0 u1 iz th1_17 mb mn mpt mbg mwr mwk mlf men)]) (E2 := [(rf_MO mo mw ma mf m0 m1 mu mv u0 u1 iz th1_17 mb mn mpt mbg mwr mwk mlf men), (rf_RW ct 0 mw 958 f)]) (n := 2) [1, 0] rfl rfl (by decide))
        have hD : va_D A ([(rf_MO mo mw ma mf m0 m1 mu mv u0 u1 iz th1_17 mb mn mpt mbg mwr mwk mlf men), (rf_RW ct 0 mw 958 f)] ++ ws_16) := ty_permD hD (ty_ordp (E := [(rf_RW ct 0 mw 958 f), (rf_MO mo mw ma mf m0 m1 mu mv u0 u1 iz th1_17 mb mn mpt mbg mwr mwk mlf men)]) (E2 := [(rf_MO mo mw ma mf m0 m1 mu mv u0 u1 iz th1_17 mb mn mpt mbg mwr mwk mlf men), (rf_RW ct 0 mw 958 f)]) (n := 2) [1, 0] rfl rfl (by decide))
        exact W.iret (v := 0) hx hb hr (fun t ht hW => ⟨⟨0, (ws_16, th1_17, f), rfl, ⟨hT, ⟨(rf_dr f), hR⟩⟩, by rw [ht]; exact hP, by rw [hAe]; exact hD⟩, hS.F ht⟩) hS.2.2 dX11_replace_39
    · refine lv_iconst (v := 1) hx hb dX11_replace_26 (by decide) ?_
      refine lv_goto (tgt := 31) hx hb dX11_replace_27 (by decide) ?_
      refine lv_iconst (v := 2) hx hb dX11_replace_31 (by decide) ?_
      have hP : va_P D vwCl ([(rf_RW ct 0 mw 958 f), (rf_MO mo mw ma mf m0 m1 mu mv u0 u1 iz th1_4 mb mn mpt mbg mwr mwk mlf men)] ++ ws_12) H := ty_permP hP (ty_ordp (E := [(rf_MO mo mw ma mf m0 m1 mu mv u0 u1 iz th1_4 mb mn mpt mbg mwr mwk mlf men), (rf_RW ct 0 mw 958 f)]) (E2 := [(rf_RW ct 0 mw 958 f), (rf_MO mo mw ma mf m0 m1 mu mv u0 u1 iz th1_4 mb mn mpt mbg mwr mwk mlf men)]) (n := 2) [1, 0] rfl rfl (by decide))
      have hD : va_D A ([(rf_RW ct 0 mw 958 f), (rf_MO mo mw ma mf m0 m1 mu mv u0 u1 iz th1_4 mb mn mpt mbg mwr mwk mlf men)] ++ ws_12) := ty_permD hD (ty_ordp (E := [(rf_MO mo mw ma mf m0 m1 mu mv u0 u1 iz th1_4 mb mn mpt mbg mwr mwk mlf men), (rf_RW ct 0 mw 958 f)]) (E2 := [(rf_RW ct 0 mw 958 f), (rf_MO mo mw ma mf m0 m1 mu mv u0 u1 iz th1_4 mb mn mpt mbg mwr mwk mlf men)]) (n := 2) [1, 0] rfl rfl (by decide))
      refine ty_ki (wr := [(rf_RW ct 0 mw 958 f)]) (wc := ([(rf_MO mo mw ma mf m0 m1 mu mv u0 u1 iz th1_4 mb mn mpt mbg mwr mwk mlf men)] ++ ws_12)) (va_runV (As := [.int 1, .int 2]) (rest := []) ⟨hx, hb, hml, hown, hts⟩ (m_X11_throwsIf l D ct S ws_12 ph xx mo mw ma mf m0 m1 mu mv u0 u1 iz mb th1_4 mn mpt mbg mwr mwk mlf men (1 : Int32) (2 : Int32) _ hT h_mu h_mv h_u0 h_u1 hph hy1 (by decide)) (cm_V 2 hts kc_X11_throwsIf ki_RX11 kl_RX11_328 kv_X11_throwsIf kx_X11_throwsIf kd_X11_throwsIf ⟨Nat.le_of_ble_eq_true rfl, Nat.le_of_ble_eq_true rfl⟩) (ty_preE (wr := [(rf_RW ct 0 mw 958 f)]) (wc := ([(rf_MO mo mw ma mf m0 m1 mu mv u0 u1 iz th1_4 mb mn mpt mbg mwr mwk mlf men)] ++ ws_12)) (ci := 11) (q0 := 1) hP hK hD hS hA hX rfl rfl) rfl rfl hl.1 rfl (lv_room (Nat.le_of_ble_eq_true rfl)) dX11_replace_32 ⟨Nat.le_of_ble_eq_true rfl, Nat.le_of_ble_eq_true rfl⟩) hP hD hS hA (fun r_57 u H locs hw_58 hP hD hS => ?_)
      obtain ⟨ws_59, th1_60⟩ := u
      obtain ⟨hT, hp_61⟩ := hw_58
      have hp_61 : ((r_57 = 0 ∧ (1 : Int32) = 0) ∨ r_57 = 1) := hp_61
      have hP : va_P D vwCl ([(rf_RW ct 0 mw 958 f), (rf_MO mo mw ma mf m0 m1 mu mv u0 u1 iz th1_60 mb mn mpt mbg mwr mwk mlf men)] ++ ws_59) H := hP
      have hD : va_D A ([(rf_RW ct 0 mw 958 f), (rf_MO mo mw ma mf m0 m1 mu mv u0 u1 iz th1_60 mb mn mpt mbg mwr mwk mlf men)] ++ ws_59) := hD
      rcases hp_61 with ⟨rfl, hz_62⟩ | rfl
      · exact absurd hz_62 (by decide)
      · refine lv_if_eq (tgt := 40) hx hb dX11_replace_35 (by decide) (fun hc => absurd hc (by decide)) (fun _ => ?_)
        refine lv_iconst (v := 0) hx hb dX11_replace_38 (by decide) ?_
        have hP : va_P D vwCl ([(rf_MO mo mw ma mf m0 m1 mu mv u0 u1 iz th1_60 mb mn mpt mbg mwr mwk mlf men), (rf_RW ct 0 mw 958 f)] ++ ws_59) H := ty_permP hP (ty_ordp (E := [(rf_RW ct 0 mw 958 f), (rf_MO mo mw ma mf m0 m1 mu mv u0 u1 iz th1_60 mb mn mpt mbg mwr mwk mlf men)]) (E2 := [(rf_MO mo mw ma mf m0 m1 mu mv u0 u1 iz th1_60 mb mn mpt mbg mwr mwk mlf men), (rf_RW ct 0 mw 958 f)]) (n := 2) [1, 0] rfl rfl (by decide))
        have hD : va_D A ([(rf_MO mo mw ma mf m0 m1 mu mv u0 u1 iz th1_60 mb mn mpt mbg mwr mwk mlf men), (rf_RW ct 0 mw 958 f)] ++ ws_59) := ty_permD hD (ty_ordp (E := [(rf_RW ct 0 mw 958 f), (rf_MO mo mw ma mf m0 m1 mu mv u0 u1 iz th1_60 mb mn mpt mbg mwr mwk mlf men)]) (E2 := [(rf_MO mo mw ma mf m0 m1 mu mv u0 u1 iz th1_60 mb mn mpt mbg mwr mwk mlf men), (rf_RW ct 0 mw 958 f)]) (n := 2) [1, 0] rfl rfl (by decide))
        exact W.iret (v := 0) hx hb hr (fun t ht hW => ⟨⟨0, (ws_59, th1_60, f), rfl, ⟨hT, ⟨(rf_dr f), hR⟩⟩, by rw [ht]; exact hP, by rw [hAe]; exact hD⟩, hS.F ht⟩) hS.2.2 dX11_replace_39
  · refine lv_if_ne (tgt := 38) hx hb dX11_replace_5 (by decide) (fun _ => ?_) (fun hc => absurd hc (by decide))
    refine lv_iconst (v := 0) hx hb dX11_replace_38 (by decide) ?_
    exact W.iret (v := 0) hx hb hr (fun t ht hW => ⟨⟨0, (ws_3, th1_4, f), rfl, ⟨hT, ⟨(rf_dr f), hR⟩⟩, by rw [ht]; exact hP, by rw [hAe]; exact hD⟩, hS.F ht⟩) hS.2.2 dX11_replace_39
theorem dX11_isSafe_0 : decode cX11_isSafe 0 = .ok (.aload_n 0, 1) := by decide +kernel
theorem dX11_isSafe_1 : decode cX11_isSafe 1 = .ok (.invokevirtual 379, 3) := by decide +kernel
theorem dX11_isSafe_4 : decode cX11_isSafe 4 = .ok (.iconst 1, 1) := by decide +kernel
theorem dX11_isSafe_5 : decode cX11_isSafe 5 = .ok (.istore 4, 2) := by decide +kernel
theorem dX11_isSafe_7 : decode cX11_isSafe 7 = .ok (.iconst 0, 1) := by decide +kernel
theorem dX11_isSafe_8 : decode cX11_isSafe 8 = .ok (.istore 5, 2) := by decide +kernel
theorem dX11_isSafe_10 : decode cX11_isSafe 10 = .ok (.iload 5, 2) := by decide +kernel
theorem dX11_isSafe_12 : decode cX11_isSafe 12 = .ok (.iload_n 3, 1) := by decide +kernel
theorem dX11_isSafe_13 : decode cX11_isSafe 13 = .ok (.if_icmp .ge 59, 3) := by decide +kernel
theorem dX11_isSafe_16 : decode cX11_isSafe 16 = .ok (.iload 4, 2) := by decide +kernel
theorem dX11_isSafe_18 : decode cX11_isSafe 18 = .ok (.ifCond .eq 54, 3) := by decide +kernel
theorem dX11_isSafe_21 : decode cX11_isSafe 21 = .ok (.aload_n 0, 1) := by decide +kernel
theorem dX11_isSafe_22 : decode cX11_isSafe 22 = .ok (.iload_n 1, 1) := by decide +kernel
theorem dX11_isSafe_23 : decode cX11_isSafe 23 = .ok (.iload_n 2, 1) := by decide +kernel
theorem dX11_isSafe_24 : decode cX11_isSafe 24 = .ok (.invokevirtual 311, 3) := by decide +kernel
theorem dX11_isSafe_27 : decode cX11_isSafe 27 = .ok (.aload_n 0, 1) := by decide +kernel
theorem dX11_isSafe_28 : decode cX11_isSafe 28 = .ok (.iload_n 1, 1) := by decide +kernel
theorem dX11_isSafe_29 : decode cX11_isSafe 29 = .ok (.iconst 5, 1) := by decide +kernel
theorem dX11_isSafe_30 : decode cX11_isSafe 30 = .ok (.invokevirtual 209, 3) := by decide +kernel
theorem dX11_isSafe_33 : decode cX11_isSafe 33 = .ok (.aload_n 0, 1) := by decide +kernel
theorem dX11_isSafe_34 : decode cX11_isSafe 34 = .ok (.getfield 9, 3) := by decide +kernel
theorem dX11_isSafe_37 : decode cX11_isSafe 37 = .ok (.iconst 5, 1) := by decide +kernel
theorem dX11_isSafe_38 : decode cX11_isSafe 38 = .ok (.iaload, 1) := by decide +kernel
theorem dX11_isSafe_39 : decode cX11_isSafe 39 = .ok (.if_icmp .gt 24, 3) := by decide +kernel
theorem dX11_isSafe_42 : decode cX11_isSafe 42 = .ok (.aload_n 0, 1) := by decide +kernel
theorem dX11_isSafe_43 : decode cX11_isSafe 43 = .ok (.iload_n 1, 1) := by decide +kernel
theorem dX11_isSafe_44 : decode cX11_isSafe 44 = .ok (.bipush 9, 2) := by decide +kernel
theorem dX11_isSafe_46 : decode cX11_isSafe 46 = .ok (.invokevirtual 209, 3) := by decide +kernel
theorem dX11_isSafe_49 : decode cX11_isSafe 49 = .ok (.aload_n 0, 1) := by decide +kernel
theorem dX11_isSafe_50 : decode cX11_isSafe 50 = .ok (.getfield 9, 3) := by decide +kernel
theorem dX11_isSafe_53 : decode cX11_isSafe 53 = .ok (.bipush 6, 2) := by decide +kernel
theorem dX11_isSafe_55 : decode cX11_isSafe 55 = .ok (.iaload, 1) := by decide +kernel
theorem dX11_isSafe_56 : decode cX11_isSafe 56 = .ok (.if_icmp .gt 7, 3) := by decide +kernel
theorem dX11_isSafe_59 : decode cX11_isSafe 59 = .ok (.iconst 1, 1) := by decide +kernel
theorem dX11_isSafe_60 : decode cX11_isSafe 60 = .ok (.goto 4, 3) := by decide +kernel
theorem dX11_isSafe_63 : decode cX11_isSafe 63 = .ok (.iconst 0, 1) := by decide +kernel
theorem dX11_isSafe_64 : decode cX11_isSafe 64 = .ok (.istore 4, 2) := by decide +kernel
theorem dX11_isSafe_66 : decode cX11_isSafe 66 = .ok (.iinc 5 1, 3) := by decide +kernel
theorem dX11_isSafe_69 : decode cX11_isSafe 69 = .ok (.goto (-59), 3) := by decide +kernel
theorem dX11_isSafe_72 : decode cX11_isSafe 72 = .ok (.aload_n 0, 1) := by decide +kernel
theorem dX11_isSafe_73 : decode cX11_isSafe 73 = .ok (.invokevirtual 385, 3) := by decide +kernel
theorem dX11_isSafe_76 : decode cX11_isSafe 76 = .ok (.iload 4, 2) := by decide +kernel
theorem dX11_isSafe_78 : decode cX11_isSafe 78 = .ok (.ireturn, 1) := by decide +kernel
set_option maxRecDepth 100000 in
set_option maxHeartbeats 4000000 in
theorem m_X11_isSafe (l : Launch) (D : va_G) (ct : Nat → ClassId) (S : ty_S) (ws : va_W) (ph : va_W → Prop) (xx : Nat → Nat → Nat → Prop) (mo : Nat) (mw : Nat) (ma : Nat) (mf : Nat) (m0 : Nat) (m1 : Nat) (mu : Nat) (mv : Nat) (u0 : Nat) (u1 : Nat) (iz : Nat) (mb : Nat) (th : Int32) (mn : Int32) (mpt : Int32) (mbg : Int32) (mwr : Int32) (mwk : Int32) (mlf : Int32) (men : Int32) (f : Nat → Int32) (G : Nat → Int32) (fa : Nat → Int32) (p1 : Int32) (p2 : Int32) (p3 : Int32) (sz : Nat) (hT : ty_V ct S ph ws) (h_mu : S mu = some (.inr (1, 42))) (h_mv : S mv = some (.inr (1, 42))) (h_u0 : S u0 = some (.inr (1, 42))) (h_u1 : S u1 = some (.inr (1, 42))) (hph : ty_C ph xx) (hy1 : ty_y1 xx) (hy11 : ty_y0 xx 11) (hR : rf_R G (-1) f) (hc : 0 ≤ p1.toInt ∧ p1.toInt < (G 9).toInt) (hi2 : 100 ≤ p2.toInt ∧ p2.toInt ≤ 5000) : Met l yX11_isSafe (ws_ yX11_isSafe cX11_isSafe 6 (some .boolean)) ({ frames := 3, cells := 0, slots := 0, locals := 76 } : Room) (va_Pc [.ref mo, .int p1, .int p2, .int p3] (cmP D ct sz ([(rf_MO mo mw ma mf m0 m1 mu mv u0 u1 iz th mb mn mpt mbg mwr mwk mlf men), (rf_RW ct 0 mw 958 f), (rf_RW ct 0 ma 958 fa)] ++ ws))) (va_Qi (fun (r : Int32) (u : va_W × Int32 × (Nat → Int32) × (Nat → Int32)) => match u with | (u9, men1, f1, fa1) => ty_V ct S ph u9 ∧ rf_d (f 8) f f1 ∧ rf_R G (-1) f1) (cmB D ([(rf_MO mo mw ma mf m0 m1 mu mv u0 u1 iz th mb mn mpt mbg mwr mwk mlf men), (rf_RW ct 0 mw 958 f), (rf_RW ct 0 ma 958 fa)] ++ ws) sz (fun (u : va_W × Int32 × (Nat → Int32) × (Nat → Int32)) => match u with | (u9, men1, f1, fa1) => ([(rf_MO mo mw ma mf m0 m1 mu mv u0 u1 iz th mb mn mpt mbg mwr mwk mlf men1), (rf_RW ct 0 mw 958 f1), (rf_RW ct 0 ma 958 fa1)] ++ u9))) (va_A ([(rf_MO mo mw ma mf m0 m1 mu mv u0 u1 iz th mb mn mpt mbg mwr mwk mlf men), (rf_RW ct 0 mw 958 f), (rf_RW ct 0 ma 958 fa)] ++ ws) sz)) 0 0 (va_A ([(rf_MO mo mw ma mf m0 m1 mu mv u0 u1 iz th mb mn mpt mbg mwr mwk mlf men), (rf_RW ct 0 mw 958 f), (rf_RW ct 0 ma 958 fa)] ++ ws) sz) := by
  refine Met.ofW (cc := cX11_isSafe) (maxL := 6) (ret := (some .boolean)) (by decide) rfl ?_
  intro p e s m args below meth c s₁ B hml hv
  obtain ⟨rfl, hsz, hP, hK, hD0, hX⟩ := hv
  have hx := B.exec
  have hb := B.bytes
  have hr := B.returns
  have hts := ws_all (atoms_spec (ws := ws_ yX11_isSafe cX11_isSafe 6 (some .boolean)) B.pre)
  have hown : s.vm.findClass RX11 = some m.cls := findClass_of_methodNamed B.named
  have hlocks := B.notSynchronized
  subst hsz
  have hD := hD0.self (sz := s.heap.size)
  generalize hAe : va_A ([(rf_MO mo mw ma mf m0 m1 mu mv u0 u1 iz th mb mn mpt mbg mwr mwk mlf men), (rf_RW ct 0 mw 958 f), (rf_RW ct 0 ma 958 fa)] ++ ws) s.heap.size = A at hD hX ⊢
  have hA : ∀ q : Nat, s.heap.size ≤ q → A q := fun q h => by rw [← hAe]; exact Or.inr h
  have hS : va_S A s.heap s.heap [] := va_S.rf
  have hl := lv_entry ([.ref mo, .int p1, .int p2, .int p3]) (n := 6) (Nat.le_of_ble_eq_true rfl)
  rw [lg_entry_eq]
  generalize (lg_sl ([.ref mo, .int p1, .int p2, .int p3]) ++ List.replicate (6 - (lg_sl ([.ref mo, .int p1, .int p2, .int p3])).length) Slot.unset).toArray = ls at hl ⊢
  have hl : lv_has ls 6 [(0, .ref mo), (1, .int p1), (2, .int p2), (3, .int p3)] := hl
  refine lv_aload_n hx hb dX11_isSafe_0 rfl (lv_at hl 0 rfl) ?_
  refine ty_kv (wr := []) (wc := ([(rf_MO mo mw ma mf m0 m1 mu mv u0 u1 iz th mb mn mpt mbg mwr mwk mlf men), (rf_RW ct 0 mw 958 f), (rf_RW ct 0 ma 958 fa)] ++ ws)) (va_runV (As := []) (rest := []) ⟨hx, hb, hml, hown, hts⟩ (m_X11_goesAside l D ct S ws ph xx mo mw ma mf m0 m1 mu mv u0 u1 iz mb th mn mpt mbg mwr mwk mlf men f G fa _ hT h_mu h_mv h_u0 h_u1 hph hy1 hy11 hR) (cm_V 0 hts kc_X11_goesAside ki_RX11 kl_RX11_379 kv_X11_goesAside kx_X11_goesAside kd_X11_goesAside ⟨Nat.le_of_ble_eq_true rfl, Nat.le_of_ble_eq_true rfl⟩) (ty_preE (wr := []) (wc := ([(rf_MO mo mw ma mf m0 m1 mu mv u0 u1 iz th mb mn mpt mbg mwr mwk mlf men), (rf_RW ct 0 mw 958 f), (rf_RW ct 0 ma 958 fa)] ++ ws)) (ci := 11) (q0 := 0) hP hK hD hS hA hX rfl rfl) rfl rfl hl.1 rfl (lv_room (Nat.le_of_ble_eq_true rfl)) dX11_isSafe_1 ⟨Nat.le_of_ble_eq_true rfl, Nat.le_of_ble_eq_true rfl⟩) hP hD hS hA (fun u H locs hw_2 hP hD hS => ?_)
  obtain ⟨ws_3, fa1_4⟩ := u
  obtain ⟨hT, hp_5⟩ := hw_2
  have hp_5 : rf_R G (-1) fa1_4 ∧ fa1_4 8 = f 8 := hp_5
  have hP : va_P D vwCl ([(rf_MO mo mw ma mf m0 m1 mu mv u0 u1 iz th mb mn mpt mbg mwr mwk mlf (0)), (rf_RW ct 0 mw 958 f), (rf_RW ct 0 ma 958 fa1_4)] ++ ws_3) H := hP
  have hD : va_D A ([(rf_MO mo mw ma mf m0 m1 mu mv u0 u1 iz th mb mn mpt mbg mwr mwk mlf (0)), (rf_RW ct 0 mw 958 f), (rf_RW ct 0 ma 958 fa1_4)] ++ ws_3) := hD
  refine lv_iconst (v := 1) hx hb dX11_isSafe_4 (by decide) ?_
  refine lv_istore (lv' := [(4, .int 1), (0, .ref mo), (1, .int p1), (2, .int p2), (3, .int p3)]) hx hb dX11_isSafe_5 hl (by decide) rfl (fun ls hl => ?_)
  refine lv_iconst (v := 0) hx hb dX11_isSafe_7 (by decide) ?_
  refine lv_istore (lv' := [(5, .int 0), (4, .int 1), (0, .ref mo), (1, .int p1), (2, .int p2), (3, .int p3)]) hx hb dX11_isSafe_8 hl (by decide) rfl (fun ls hl => ?_)
  refine ty_loop (I := fun μ H locs ls => ∃ (ws : va_W) (y_6 : Int32) (y_7 : Int32) (f_8 : Nat → Int32), μ = (2147483648 - y_7.toInt).toNat ∧ ty_V ct S ph ws ∧ va_P D vwCl ([(rf_MO mo mw ma mf m0 m1 mu mv u0 u1 iz th mb mn mpt mbg mwr mwk mlf (0)), (rf_RW ct 0 mw 958 f_8), (rf_RW ct 0 ma 958 fa1_4)] ++ ws) H ∧ va_D A ([(rf_MO mo mw ma mf m0 m1 mu mv u0 u1 iz th mb mn mpt mbg mwr mwk mlf (0)), (rf_RW ct 0 mw 958 f_8), (rf_RW ct 0 ma 958 fa1_4)] ++ ws) ∧ va_S A s.heap H locs ∧ lv_has ls 6 [(0, .ref mo), (1, .int p1), (2, .int p2), (3, .int p3), (4, .int y_6), (5, .int y_7)] ∧ rf_R G (-1) f_8 ∧ rf_d (f 8) f f_8 ∧ (y_6 = 0 ∨ y_6 = 1)) ⟨_, ws_3, (1 : Int32), (0 : Int32), f, rfl, hT, hP, hD, hS, (lv_sub hl [2, 3, 4, 5, 1, 0] rfl), hR, (rf_dr f), Or.inr rfl⟩ (fun μ H locs ls hI ih_10 => ?_)
  obtain ⟨ws, y_6, y_7, f_8, rfl, hT, hP, hD, hS, hl, hR_10, hD_10, hex_10⟩ := hI
  refine lv_iload hx hb dX11_isSafe_10 (lv_at hl 5 rfl) ?_
  refine lv_iload_n hx hb dX11_isSafe_12 rfl (lv_at hl 3 rfl) ?_
  refine lv_icmp_ge (tgt := 72) hx hb dX11_isSafe_13 (by decide) (fun hc_9 => ?_) (fun hc_9 => ?_)
  · refine lv_aload_n hx hb dX11_isSafe_72 rfl (lv_at hl 0 rfl) ?_
    refine ty_kv (wr := []) (wc := ([(rf_MO mo mw ma mf m0 m1 mu mv u0 u1 iz th mb mn mpt mbg mwr mwk mlf (0)), (rf_RW ct 0 mw 958 f_8), (rf_RW ct 0 ma 958 fa1_4)] ++ ws)) (va_runV (As := []) (rest := []) ⟨hx, hb, hml, hown, hts⟩ (m_X11_comesBack l D ct S ws ph xx mo mw ma mf m0 m1 mu mv u0 u1 iz mb th mn mpt mbg mwr mwk mlf (0 : Int32) f_8 G fa1_4 _ hT h_mu h_mv h_u0 h_u1 hph hy1 hy11 hp_5.1) (cm_V 0 hts kc_X11_comesBack ki_RX11 kl_RX11_385 kv_X11_comesBack kx_X11_comesBack kd_X11_comesBack ⟨Nat.le_of_ble_eq_true rfl, Nat.le_of_ble_eq_true rfl⟩) (ty_preE (wr := []) (wc := ([(rf_MO mo mw ma mf m0 m1 mu mv u0 u1 iz th mb mn mpt mbg mwr mwk mlf (0)), (rf_RW ct 0 mw 958 f_8), (rf_RW ct 0 ma 958 fa1_4)] ++ ws)) (ci := 11) (q0 := 0) hP hK hD hS hA hX rfl rfl) rfl rfl hl.1 rfl (lv_room (Nat.le_of_ble_eq_true rfl)) dX11_isSafe_73 ⟨Nat.le_of_ble_eq_true rfl, Nat.le_of_ble_eq_true rfl⟩) hP hD hS hA (fun u H locs hw_11 hP hD hS => ?_)
    obtain ⟨ws_12, f1_13⟩ := u
    obtain ⟨hT, hp_14⟩ := hw_11
    have hp_14 : rf_R G (-1) f1_13 ∧ f1_13 8 = fa1_4 8 := hp_14
    have hR_15 := hp_14.1
    have hP : va_P D vwCl ([(rf_MO mo mw ma mf m0 m1 mu mv u0 u1 iz th mb mn mpt mbg mwr mwk mlf (0)), (rf_RW ct 0 mw 958 f1_13), (rf_RW ct 0 ma 958 fa1_4)] ++ ws_12) H := hP
    have hD : va_D A ([(rf_MO mo mw ma mf m0 m1 mu mv u0 u1 iz th mb mn mpt mbg mwr mwk mlf (0)), (rf_RW ct 0 mw 958 f1_13), (rf_RW ct 0 ma 958 fa1_4)] ++ ws_12) := hD
    have hD_17 := rf_dg (rf_dr f) hp_5.2 hp_14.2
    refine lv_iload hx hb dX11_isSafe_76 (lv_at hl 4 rfl) ?_
    exact W.zret (v := y_6) hx hb hr (rf_z01 hex_10) (fun t ht hW => ⟨⟨y_6, (ws_12, (0 : Int32), f1_13, fa1_4), rfl, ⟨hT, ⟨hD_17, hR_15⟩⟩, by rw [ht]; exact hP, by rw [hAe]; exact hD⟩, hS.F ht⟩) hS.2.2 dX11_isSafe_78
  · refine lv_iload hx hb dX11_isSafe_16 (lv_at hl 4 rfl) ?_
    refine lv_if_eq (tgt := 72) hx hb dX11_isSafe_18 (by decide) (fun hc_18 => ?_) (fun hc_18 => ?_)
    · refine lv_aload_n hx hb dX11_isSafe_72 rfl (lv_at hl 0 rfl) ?_
      refine ty_kv (wr := []) (wc := ([(rf_MO mo mw ma mf m0 m1 mu mv u0 u1 iz th mb mn mpt mbg mwr mwk mlf (0)), (rf_RW ct 0 mw 958 f_8), (rf_RW ct 0 ma 958 fa1_4)] ++ ws)) (va_runV (As := []) (rest := []) ⟨hx, hb, hml, hown, hts⟩ (m_X11_comesBack l D ct S ws ph xx mo mw ma mf m0 m1 mu mv u0 u1 iz mb th mn mpt mbg mwr mwk mlf (0 : Int32) f_8 G fa1_4 _ hT h_mu h_mv h_u0 h_u1 hph hy1 hy11 hp_5.1) (cm_V 0 hts kc_X11_comesBack ki_RX11 kl_RX11_385 kv_X11_comesBack kx_X11_comesBack kd_X11_comesBack ⟨Nat.le_of_ble_eq_true rfl, Nat.le_of_ble_eq_true rfl⟩) (ty_preE (wr := []) (wc := ([(rf_MO mo mw ma mf m0 m1 mu mv u0 u1 iz th mb mn mpt mbg mwr mwk mlf (0)), (rf_RW ct 0 mw 958 f_8), (rf_RW ct 0 ma 958 fa1_4)] ++ ws)) (ci := 11) (q0 := 0) hP hK hD hS hA hX rfl rfl) rfl rfl hl.1 rfl (lv_room (Nat.le_of_ble_eq_true rfl)) dX11_isSafe_73 ⟨Nat.le_of_ble_eq_true rfl, Nat.le_of_ble_eq_true rfl⟩) hP hD hS hA (fun u H locs hw_20 hP hD hS => ?_)
      obtain ⟨ws_21, f1_22⟩ := u
      obtain ⟨hT, hp_23⟩ := hw_20
      have hp_23 : rf_R G (-1) f1_22 ∧ f1_22 8 = fa1_4 8 := hp_23
      have hR_24 := hp_23.1
      have hP : va_P D vwCl ([(rf_MO mo mw ma mf m0 m1 mu mv u0 u1 iz th mb mn mpt mbg mwr mwk mlf (0)), (rf_RW ct 0 mw 958 f1_22), (rf_RW ct 0 ma 958 fa1_4)] ++ ws_21) H := hP
      have hD : va_D A ([(rf_MO mo mw ma mf m0 m1 mu mv u0 u1 iz th mb mn mpt mbg mwr mwk mlf (0)), (rf_RW ct 0 mw 958 f1_22), (rf_RW ct 0 ma 958 fa1_4)] ++ ws_21) := hD
      have hD_26 := rf_dg (rf_dr f) hp_5.2 hp_23.2
      refine lv_iload hx hb dX11_isSafe_76 (lv_at hl 4 rfl) ?_
      exact W.zret (v := y_6) hx hb hr (rf_z01 hex_10) (fun t ht hW => ⟨⟨y_6, (ws_21, (0 : Int32), f1_22, fa1_4), rfl, ⟨hT, ⟨hD_26, hR_24⟩⟩, by rw [ht]; exact hP, by rw [hAe]; exact hD⟩, hS.F ht⟩) hS.2.2 dX11_isSafe_78
    · refine lv_aload_n hx hb dX11_isSafe_21 rfl (lv_at hl 0 rfl) ?_
      refine lv_iload_n hx hb dX11_isSafe_22 rfl (lv_at hl 1 rfl) ?_
      refine lv_iload_n hx hb dX11_isSafe_23 rfl (lv_at hl 2 rfl) ?_
      have hP : va_P D vwCl ([(rf_RW ct 0 ma 958 fa1_4), (rf_MO mo mw ma mf m0 m1 mu mv u0 u1 iz th mb mn mpt mbg mwr mwk mlf (0)), (rf_RW ct 0 mw 958 f_8)] ++ ws) H := ty_permP hP (ty_ordp (E := [(rf_MO mo mw ma mf m0 m1 mu mv u0 u1 iz th mb mn mpt mbg mwr mwk mlf (0)), (rf_RW ct 0 mw 958 f_8), (rf_RW ct 0 ma 958 fa1_4)]) (E2 := [(rf_RW ct 0 ma 958 fa1_4), (rf_MO mo mw ma mf m0 m1 mu mv u0 u1 iz th mb mn mpt mbg mwr mwk mlf (0)), (rf_RW ct 0 mw 958 f_8)]) (n := 3) [2, 0, 1] rfl rfl (by decide))
      have hD : va_D A ([(rf_RW ct 0 ma 958 fa1_4), (rf_MO mo mw ma mf m0 m1 mu mv u0 u1 iz th mb mn mpt mbg mwr mwk mlf (0)), (rf_RW ct 0 mw 958 f_8)] ++ ws) := ty_permD hD (ty_ordp (E := [(rf_MO mo mw ma mf m0 m1 mu mv u0 u1 iz th mb mn mpt mbg mwr mwk mlf (0)), (rf_RW ct 0 mw 958 f_8), (rf_RW ct 0 ma 958 fa1_4)]) (E2 := [(rf_RW ct 0 ma 958 fa1_4), (rf_MO mo mw ma mf m0 m1 mu mv u0 u1 iz th mb mn mpt mbg mwr mwk mlf (0)), (rf_RW ct 0 mw 958 f_8)]) (n := 3) [2, 0, 1] rfl rfl (by decide))
      refine ty_kv (wr := [(rf_RW ct 0 ma 958 fa1_4)]) (wc := ([(rf_MO mo mw ma mf m0 m1 mu mv u0 u1 iz th mb mn mpt mbg mwr mwk mlf (0)), (rf_RW ct 0 mw 958 f_8)] ++ ws)) (va_runV (As := [.int p1, .int p2]) (rest := []) ⟨hx, hb, hml, hown, hts⟩ (m_X11_flows l D ct S ws ph xx mo mw ma mf m0 m1 mu mv u0 u1 iz mb th mn mpt mbg mwr mwk mlf (0 : Int32) f_8 G (-1) p1 p2 _ hT h_mu h_mv h_u0 h_u1 hph hy1 hy11 hR_10 hc (by have := rf_qp hR_10 hc; omega)) (cm_V 2 hts kc_X11_flows ki_RX11 kl_RX11_311 kv_X11_flows kx_X11_flows kd_X11_flows ⟨Nat.le_of_ble_eq_true rfl, Nat.le_of_ble_eq_true rfl⟩) (ty_preE (wr := [(rf_RW ct 0 ma 958 fa1_4)]) (wc := ([(rf_MO mo mw ma mf m0 m1 mu mv u0 u1 iz th mb mn mpt mbg mwr mwk mlf (0)), (rf_RW ct 0 mw 958 f_8)] ++ ws)) (ci := 11) (q0 := 1) hP hK hD hS hA hX rfl rfl) rfl rfl hl.1 rfl (lv_room (Nat.le_of_ble_eq_true rfl)) dX11_isSafe_24 ⟨Nat.le_of_ble_eq_true rfl, Nat.le_of_ble_eq_true rfl⟩) hP hD hS hA (fun u H locs hw_28 hP hD hS => ?_)
      obtain ⟨ws_29, f1_30⟩ := u
      obtain ⟨hT, hp_31⟩ := hw_28
      have hp_31 : rf_d (f_8 8) f_8 f1_30 ∧ rf_R G (-1) f1_30 ∧ rf_sm f_8 f1_30 := hp_31
      obtain ⟨hd_32, hq_33⟩ := hp_31
      have hD_34 := rf_dt hD_10 hd_32
      have hR_35 := hq_33.1
      have hP : va_P D vwCl ([(rf_RW ct 0 ma 958 fa1_4), (rf_MO mo mw ma mf m0 m1 mu mv u0 u1 iz th mb mn mpt mbg mwr mwk mlf (0)), (rf_RW ct 0 mw 958 f1_30)] ++ ws_29) H := hP
      have hD : va_D A ([(rf_RW ct 0 ma 958 fa1_4), (rf_MO mo mw ma mf m0 m1 mu mv u0 u1 iz th mb mn mpt mbg mwr mwk mlf (0)), (rf_RW ct 0 mw 958 f1_30)] ++ ws_29) := hD
      refine lv_aload_n hx hb dX11_isSafe_27 rfl (lv_at hl 0 rfl) ?_
      refine lv_iload_n hx hb dX11_isSafe_28 rfl (lv_at hl 1 rfl) ?_
      refine lv_iconst (v := 5) hx hb dX11_isSafe_29 (by decide) ?_
      refine ty_ki (wr := [(rf_RW ct 0 ma 958 fa1_4)]) (wc := ([(rf_MO mo mw ma mf m0 m1 mu mv u0 u1 iz th mb mn mpt mbg mwr mwk mlf (0)), (rf_RW ct 0 mw 958 f1_30)] ++ ws_29)) (va_runV (As := [.int p1, .int 5]) (rest := []) ⟨hx, hb, hml, hown, hts⟩ (m_of_5 l D ct S ws_29 ph xx mo mw ma mf m0 m1 mu mv u0 u1 iz mb th mn mpt mbg mwr mwk mlf (0 : Int32) f1_30 G (-1) p1 _ hT h_mu h_mv h_u0 h_u1 hph hy1 hR_35 hc) (cm_V 2 hts kc_X11_of ki_RX11 kl_RX11_209 kv_X11_of kx_X11_of kd_X11_of ⟨Nat.le_of_ble_eq_true rfl, Nat.le_of_ble_eq_true rfl⟩) (ty_preE (wr := [(rf_RW ct 0 ma 958 fa1_4)]) (wc := ([(rf_MO mo mw ma mf m0 m1 mu mv u0 u1 iz th mb mn mpt mbg mwr mwk mlf (0)), (rf_RW ct 0 mw 958 f1_30)] ++ ws_29)) (ci := 11) (q0 := 1) hP hK hD hS hA hX rfl rfl) rfl rfl hl.1 rfl (lv_room (Nat.le_of_ble_eq_true rfl)) dX11_isSafe_30 ⟨Nat.le_of_ble_eq_true rfl, Nat.le_of_ble_eq_true rfl⟩) hP hD hS hA (fun r_37 u H locs hw_38 hP hD hS => ?_)
      obtain ⟨ws_39, rfl⟩ : ∃ z, z = u := ⟨_, rfl⟩
      obtain ⟨hT, rfl⟩ := hw_38
      have hP : va_P D vwCl ([(rf_RW ct 0 ma 958 fa1_4), (rf_MO mo mw ma mf m0 m1 mu mv u0 u1 iz th mb mn mpt mbg mwr mwk mlf (0)), (rf_RW ct 0 mw 958 f1_30)] ++ ws_39) H := hP
      have hD : va_D A ([(rf_RW ct 0 ma 958 fa1_4), (rf_MO mo mw ma mf m0 m1 mu mv u0 u1 iz th mb mn mpt mbg mwr mwk mlf (0)), (rf_RW ct 0 mw 958 f1_30)] ++ ws_39) := hD
      refine lv_aload_n hx hb dX11_isSafe_33 rfl (lv_at hl 0 rfl) ?_
      refine va_get (v := .ref mw) (D := D) (ci := 11) (C := RX11) (T := TX11) (N := 19) hx hb hts in_X11 hown hK hP 1 rfl rfl 0 (by decide) (hts _ kl_RX11_9) (fun _ h9 => h9) rfl dX11_isSafe_34 ?_
      refine lv_iconst (v := 5) hx hb dX11_isSafe_37 (by decide) ?_
      refine va_iald hx hb hK hP 2 0 rfl rfl (cm_vin (by decide)) dX11_isSafe_38 ?_
      refine cm_cst (y := (f1_30 5)) (by first | rfl | decide +kernel) ?_
      refine lv_icmp_gt (tgt := 63) hx hb dX11_isSafe_39 (by decide) (fun hc_40 => ?_) (fun hc_40 => ?_)
      · refine lv_iconst (v := 0) hx hb dX11_isSafe_63 (by decide) ?_
        refine lv_istore (lv' := [(4, .int 0), (0, .ref mo), (1, .int p1), (2, .int p2), (3, .int p3), (5, .int y_7)]) hx hb dX11_isSafe_64 hl (by decide) rfl (fun ls hl => ?_)
        refine lv_iinc (v := (y_7 + Int32.ofInt 1)) (lv' := [(5, .int (y_7 + Int32.ofInt 1)), (4, .int 0), (0, .ref mo), (1, .int p1), (2, .int p2), (3, .int p3)]) hx hb dX11_isSafe_66 hl (k := 5) rfl rfl (by decide) rfl (fun ls hl => ?_)
        refine lv_goto (tgt := 10) hx hb dX11_isSafe_69 (by decide) ?_
        have hP : va_P D vwCl ([(rf_MO mo mw ma mf m0 m1 mu mv u0 u1 iz th mb mn mpt mbg mwr mwk mlf (0)), (rf_RW ct 0 mw 958 f1_30), (rf_RW ct 0 ma 958 fa1_4)] ++ ws_39) H := ty_permP hP (ty_ordp (E := [(rf_RW ct 0 ma 958 fa1_4), (rf_MO mo mw ma mf m0 m1 mu mv u0 u1 iz th mb mn mpt mbg mwr mwk mlf (0)), (rf_RW ct 0 mw 958 f1_30)]) (E2 := [(rf_MO mo mw ma mf m0 m1 mu mv u0 u1 iz th mb mn mpt mbg mwr mwk mlf (0)), (rf_RW ct 0 mw 958 f1_30), (rf_RW ct 0 ma 958 fa1_4)]) (n := 3) [1, 2, 0] rfl rfl (by decide))
        have hD : va_D A ([(rf_MO mo mw ma mf m0 m1 mu mv u0 u1 iz th mb mn mpt mbg mwr mwk mlf (0)), (rf_RW ct 0 mw 958 f1_30), (rf_RW ct 0 ma 958 fa1_4)] ++ ws_39) := ty_permD hD (ty_ordp (E := [(rf_RW ct 0 ma 958 fa1_4), (rf_MO mo mw ma mf m0 m1 mu mv u0 u1 iz th mb mn mpt mbg mwr mwk mlf (0)), (rf_RW ct 0 mw 958 f1_30)]) (E2 := [(rf_MO mo mw ma mf m0 m1 mu mv u0 u1 iz th mb mn mpt mbg mwr mwk mlf (0)), (rf_RW ct 0 mw 958 f1_30), (rf_RW ct 0 ma 958 fa1_4)]) (n := 3) [1, 2, 0] rfl rfl (by decide))
        exact ih_10 _ _ _ _ (ty_inc (cm_lt hc_9)) ⟨ws_39, (0 : Int32), (y_7 + Int32.ofInt 1), f1_30, rfl, hT, hP, hD, hS, (lv_sub hl [2, 3, 4, 5, 1, 0] rfl), hR_35, hD_34, Or.inl rfl⟩
      · refine lv_aload_n hx hb dX11_isSafe_42 rfl (lv_at hl 0 rfl) ?_
        refine lv_iload_n hx hb dX11_isSafe_43 rfl (lv_at hl 1 rfl) ?_
        refine lv_bipush (v := 9) hx hb dX11_isSafe_44 (by decide) ?_
        refine ty_ki (wr := [(rf_RW ct 0 ma 958 fa1_4)]) (wc := ([(rf_MO mo mw ma mf m0 m1 mu mv u0 u1 iz th mb mn mpt mbg mwr mwk mlf (0)), (rf_RW ct 0 mw 958 f1_30)] ++ ws_39)) (va_runV (As := [.int p1, .int 9]) (rest := []) ⟨hx, hb, hml, hown, hts⟩ (m_of_9 l D ct S ws_39 ph xx mo mw ma mf m0 m1 mu mv u0 u1 iz mb th mn mpt mbg mwr mwk mlf (0 : Int32) f1_30 G (-1) p1 _ hT h_mu h_mv h_u0 h_u1 hph hy1 hR_35 hc) (cm_V 2 hts kc_X11_of ki_RX11 kl_RX11_209 kv_X11_of kx_X11_of kd_X11_of ⟨Nat.le_of_ble_eq_true rfl, Nat.le_of_ble_eq_true rfl⟩) (ty_preE (wr := [(rf_RW ct 0 ma 958 fa1_4)]) (wc := ([(rf_MO mo mw ma mf m0 m1 mu mv u0 u1 iz th mb mn mpt mbg mwr mwk mlf (0)), (rf_RW ct 0 mw 958 f1_30)] ++ ws_39)) (ci := 11) (q0 := 1) hP hK hD hS hA hX rfl rfl) rfl rfl hl.1 rfl (lv_room (Nat.le_of_ble_eq_true rfl)) dX11_isSafe_46 ⟨Nat.le_of_ble_eq_true rfl, Nat.le_of_ble_eq_true rfl⟩) hP hD hS hA (fun r_41 u H locs hw_42 hP hD hS => ?_)
        obtain ⟨ws_43, rfl⟩ : ∃ z, z = u := ⟨_, rfl⟩
        obtain ⟨hT, rfl⟩ := hw_42
        have hP : va_P D vwCl ([(rf_RW ct 0 ma 958 fa1_4), (rf_MO mo mw ma mf m0 m1 mu mv u0 u1 iz th mb mn mpt mbg mwr mwk mlf (0)), (rf_RW ct 0 mw 958 f1_30)] ++ ws_43) H := hP
        have hD : va_D A ([(rf_RW ct 0 ma 958 fa1_4), (rf_MO mo mw ma mf m0 m1 mu mv u0 u1 iz th mb mn mpt mbg mwr mwk mlf (0)), (rf_RW ct 0 mw 958 f1_30)] ++ ws_43) := hD
        refine lv_aload_n hx hb dX11_isSafe_49 rfl (lv_at hl 0 rfl) ?_
        refine va_get (v := .ref mw) (D := D) (ci := 11) (C := RX11) (T := TX11) (N := 19) hx hb hts in_X11 hown hK hP 1 rfl rfl 0 (by decide) (hts _ kl_RX11_9) (fun _ h9 => h9) rfl dX11_isSafe_50 ?_
        refine lv_bipush (v := 6) hx hb dX11_isSafe_53 (by decide) ?_
        refine va_iald hx hb hK hP 2 0 rfl rfl (cm_vin (by decide)) dX11_isSafe_55 ?_
        refine cm_cst (y := (f1_30 6)) (by first | rfl | decide +kernel) ?_
        refine lv_icmp_gt (tgt := 63) hx hb dX11_isSafe_56 (by decide) (fun hc_44 => ?_) (fun hc_44 => ?_)
        · refine lv_iconst (v := 0) hx hb dX11_isSafe_63 (by decide) ?_
          refine lv_istore (lv' := [(4, .int 0), (0, .ref mo), (1, .int p1), (2, .int p2), (3, .int p3), (5, .int y_7)]) hx hb dX11_isSafe_64 hl (by decide) rfl (fun ls hl => ?_)
          refine lv_iinc (v := (y_7 + Int32.ofInt 1)) (lv' := [(5, .int (y_7 + Int32.ofInt 1)), (4, .int 0), (0, .ref mo), (1, .int p1), (2, .int p2), (3, .int p3)]) hx hb dX11_isSafe_66 hl (k := 5) rfl rfl (by decide) rfl (fun ls hl => ?_)
          refine lv_goto (tgt := 10) hx hb dX11_isSafe_69 (by decide) ?_
          have hP : va_P D vwCl ([(rf_MO mo mw ma mf m0 m1 mu mv u0 u1 iz th mb mn mpt mbg mwr mwk mlf (0)), (rf_RW ct 0 mw 958 f1_30), (rf_RW ct 0 ma 958 fa1_4)] ++ ws_43) H := ty_permP hP (ty_ordp (E := [(rf_RW ct 0 ma 958 fa1_4), (rf_MO mo mw ma mf m0 m1 mu mv u0 u1 iz th mb mn mpt mbg mwr mwk mlf (0)), (rf_RW ct 0 mw 958 f1_30)]) (E2 := [(rf_MO mo mw ma mf m0 m1 mu mv u0 u1 iz th mb mn mpt mbg mwr mwk mlf (0)), (rf_RW ct 0 mw 958 f1_30), (rf_RW ct 0 ma 958 fa1_4)]) (n := 3) [1, 2, 0] rfl rfl (by decide))
          have hD : va_D A ([(rf_MO mo mw ma mf m0 m1 mu mv u0 u1 iz th mb mn mpt mbg mwr mwk mlf (0)), (rf_RW ct 0 mw 958 f1_30), (rf_RW ct 0 ma 958 fa1_4)] ++ ws_43) := ty_permD hD (ty_ordp (E := [(rf_RW ct 0 ma 958 fa1_4), (rf_MO mo mw ma mf m0 m1 mu mv u0 u1 iz th mb mn mpt mbg mwr mwk mlf (0)), (rf_RW ct 0 mw 958 f1_30)]) (E2 := [(rf_MO mo mw ma mf m0 m1 mu mv u0 u1 iz th mb mn mpt mbg mwr mwk mlf (0)), (rf_RW ct 0 mw 958 f1_30), (rf_RW ct 0 ma 958 fa1_4)]) (n := 3) [1, 2, 0] rfl rfl (by decide))
          exact ih_10 _ _ _ _ (ty_inc (cm_lt hc_9)) ⟨ws_43, (0 : Int32), (y_7 + Int32.ofInt 1), f1_30, rfl, hT, hP, hD, hS, (lv_sub hl [2, 3, 4, 5, 1, 0] rfl), hR_35, hD_34, Or.inl rfl⟩
        · refine lv_iconst (v := 1) hx hb dX11_isSafe_59 (by decide) ?_
          refine lv_goto (tgt := 64) hx hb dX11_isSafe_60 (by decide) ?_
          refine lv_istore (lv' := [(4, .int 1), (0, .ref mo), (1, .int p1), (2, .int p2), (3, .int p3), (5, .int y_7)]) hx hb dX11_isSafe_64 hl (by decide) rfl (fun ls hl => ?_)
          refine lv_iinc (v := (y_7 + Int32.ofInt 1)) (lv' := [(5, .int (y_7 + Int32.ofInt 1)), (4, .int 1), (0, .ref mo), (1, .int p1), (2, .int p2), (3, .int p3)]) hx hb dX11_isSafe_66 hl (k := 5) rfl rfl (by decide) rfl (fun ls hl => ?_)
          refine lv_goto (tgt := 10) hx hb dX11_isSafe_69 (by decide) ?_
          have hP : va_P D vwCl ([(rf_MO mo mw ma mf m0 m1 mu mv u0 u1 iz th mb mn mpt mbg mwr mwk mlf (0)), (rf_RW ct 0 mw 958 f1_30), (rf_RW ct 0 ma 958 fa1_4)] ++ ws_43) H := ty_permP hP (ty_ordp (E := [(rf_RW ct 0 ma 958 fa1_4), (rf_MO mo mw ma mf m0 m1 mu mv u0 u1 iz th mb mn mpt mbg mwr mwk mlf (0)), (rf_RW ct 0 mw 958 f1_30)]) (E2 := [(rf_MO mo mw ma mf m0 m1 mu mv u0 u1 iz th mb mn mpt mbg mwr mwk mlf (0)), (rf_RW ct 0 mw 958 f1_30), (rf_RW ct 0 ma 958 fa1_4)]) (n := 3) [1, 2, 0] rfl rfl (by decide))
          have hD : va_D A ([(rf_MO mo mw ma mf m0 m1 mu mv u0 u1 iz th mb mn mpt mbg mwr mwk mlf (0)), (rf_RW ct 0 mw 958 f1_30), (rf_RW ct 0 ma 958 fa1_4)] ++ ws_43) := ty_permD hD (ty_ordp (E := [(rf_RW ct 0 ma 958 fa1_4), (rf_MO mo mw ma mf m0 m1 mu mv u0 u1 iz th mb mn mpt mbg mwr mwk mlf (0)), (rf_RW ct 0 mw 958 f1_30)]) (E2 := [(rf_MO mo mw ma mf m0 m1 mu mv u0 u1 iz th mb mn mpt mbg mwr mwk mlf (0)), (rf_RW ct 0 mw 958 f1_30), (rf_RW ct 0 ma 958 fa1_4)]) (n := 3) [1, 2, 0] rfl rfl (by decide))
          exact ih_10 _ _ _ _ (ty_inc (cm_lt hc_9)) ⟨ws_43, (1 : Int32), (y_7 + Int32.ofInt 1), f1_30, rfl, hT, hP, hD, hS, (lv_sub hl [2, 3, 4, 5, 1, 0] rfl), hR_35, hD_34, Or.inr rfl⟩
theorem dX11_safeCurrent_0 : decode cX11_safeCurrent 0 = .ok (.aload_n 0, 1) := by decide +kernel
theorem dX11_safeCurrent_1 : decode cX11_safeCurrent 1 = .ok (.iload_n 1, 1) := by decide +kernel
theorem dX11_safeCurrent_2 : decode cX11_safeCurrent 2 = .ok (.invokevirtual 344, 3) := by decide +kernel
theorem dX11_safeCurrent_5 : decode cX11_safeCurrent 5 = .ok (.ifCond .ne 28, 3) := by decide +kernel
theorem dX11_safeCurrent_8 : decode cX11_safeCurrent 8 = .ok (.aload_n 0, 1) := by decide +kernel
theorem dX11_safeCurrent_9 : decode cX11_safeCurrent 9 = .ok (.iload_n 2, 1) := by decide +kernel
theorem dX11_safeCurrent_10 : decode cX11_safeCurrent 10 = .ok (.i2l, 1) := by decide +kernel
theorem dX11_safeCurrent_11 : decode cX11_safeCurrent 11 = .ok (.lconst 1, 1) := by decide +kernel
theorem dX11_safeCurrent_12 : decode cX11_safeCurrent 12 = .ok (.ldc2_w 303, 3) := by decide +kernel
theorem dX11_safeCurrent_15 : decode cX11_safeCurrent 15 = .ok (.invokestatic 70, 3) := by decide +kernel
theorem dX11_safeCurrent_18 : decode cX11_safeCurrent 18 = .ok (.ifCond .ne 7, 3) := by decide +kernel
theorem dX11_safeCurrent_21 : decode cX11_safeCurrent 21 = .ok (.iconst 1, 1) := by decide +kernel
theorem dX11_safeCurrent_22 : decode cX11_safeCurrent 22 = .ok (.goto 4, 3) := by decide +kernel
theorem dX11_safeCurrent_25 : decode cX11_safeCurrent 25 = .ok (.iconst 0, 1) := by decide +kernel
theorem dX11_safeCurrent_26 : decode cX11_safeCurrent 26 = .ok (.iconst 2, 1) := by decide +kernel
theorem dX11_safeCurrent_27 : decode cX11_safeCurrent 27 = .ok (.invokevirtual 328, 3) := by decide +kernel
theorem dX11_safeCurrent_30 : decode cX11_safeCurrent 30 = .ok (.ifCond .eq 5, 3) := by decide +kernel
theorem dX11_safeCurrent_33 : decode cX11_safeCurrent 33 = .ok (.iconst 0, 1) := by decide +kernel
theorem dX11_safeCurrent_34 : decode cX11_safeCurrent 34 = .ok (.ireturn, 1) := by decide +kernel
theorem dX11_safeCurrent_35 : decode cX11_safeCurrent 35 = .ok (.sipush 5000, 3) := by decide +kernel
theorem dX11_safeCurrent_38 : decode cX11_safeCurrent 38 = .ok (.istore_n 3, 1) := by decide +kernel
theorem dX11_safeCurrent_39 : decode cX11_safeCurrent 39 = .ok (.iload_n 3, 1) := by decide +kernel
theorem dX11_safeCurrent_40 : decode cX11_safeCurrent 40 = .ok (.bipush 100, 2) := by decide +kernel
theorem dX11_safeCurrent_42 : decode cX11_safeCurrent 42 = .ok (.if_icmp .lt 21, 3) := by decide +kernel
theorem dX11_safeCurrent_45 : decode cX11_safeCurrent 45 = .ok (.aload_n 0, 1) := by decide +kernel
theorem dX11_safeCurrent_46 : decode cX11_safeCurrent 46 = .ok (.iload_n 1, 1) := by decide +kernel
theorem dX11_safeCurrent_47 : decode cX11_safeCurrent 47 = .ok (.iload_n 3, 1) := by decide +kernel
theorem dX11_safeCurrent_48 : decode cX11_safeCurrent 48 = .ok (.iload_n 2, 1) := by decide +kernel
theorem dX11_safeCurrent_49 : decode cX11_safeCurrent 49 = .ok (.invokevirtual 399, 3) := by decide +kernel
theorem dX11_safeCurrent_52 : decode cX11_safeCurrent 52 = .ok (.ifCond .eq 5, 3) := by decide +kernel
theorem dX11_safeCurrent_55 : decode cX11_safeCurrent 55 = .ok (.iload_n 3, 1) := by decide +kernel
theorem dX11_safeCurrent_56 : decode cX11_safeCurrent 56 = .ok (.ireturn, 1) := by decide +kernel
theorem dX11_safeCurrent_57 : decode cX11_safeCurrent 57 = .ok (.iinc 3 (-100), 3) := by decide +kernel
theorem dX11_safeCurrent_60 : decode cX11_safeCurrent 60 = .ok (.goto (-21), 3) := by decide +kernel
theorem dX11_safeCurrent_63 : decode cX11_safeCurrent 63 = .ok (.iconst (-1), 1) := by decide +kernel
theorem dX11_safeCurrent_64 : decode cX11_safeCurrent 64 = .ok (.ireturn, 1) := by decide +kernel
set_option maxRecDepth 100000 in
set_option maxHeartbeats 4000000 in
theorem m_X11_safeCurrent (l : Launch) (D : va_G) (ct : Nat → ClassId) (S : ty_S) (ws : va_W) (ph : va_W → Prop) (xx : Nat → Nat → Nat → Prop) (mo : Nat) (mw : Nat) (ma : Nat) (mf : Nat) (m0 : Nat) (m1 : Nat) (mu : Nat) (mv : Nat) (u0 : Nat) (u1 : Nat) (iz : Nat) (mb : Nat) (th : Int32) (mn : Int32) (mpt : Int32) (mbg : Int32) (mwr : Int32) (mwk : Int32) (mlf : Int32) (men : Int32) (f : Nat → Int32) (G : Nat → Int32) (fa : Nat → Int32) (p1 : Int32) (p2 : Int32) (sz : Nat) (hT : ty_V ct S ph ws) (h_mu : S mu = some (.inr (1, 42))) (h_mv : S mv = some (.inr (1, 42))) (h_u0 : S u0 = some (.inr (1, 42))) (h_u1 : S u1 = some (.inr (1, 42))) (hph : ty_C ph xx) (hy1 : ty_y1 xx) (hy11 : ty_y0 xx 11) (hR : rf_R G (-1) f) : Met l yX11_safeCurrent (ws_ yX11_safeCurrent cX11_safeCurrent 4 (some .int)) ({ frames := 4, cells := 0, slots := 0, locals := 101 } : Room) (va_Pc [.ref mo, .int p1, .int p2] (cmP D ct sz ([(rf_MO mo mw ma mf m0 m1 mu mv u0 u1 iz th mb mn mpt mbg mwr mwk mlf men), (rf_RW ct 0 mw 958 f), (rf_RW ct 0 ma 958 fa)] ++ ws))) (va_Qi (fun (r : Int32) (u : va_W × Int32 × Int32 × (Nat → Int32) × (Nat → Int32)) => match u with | (u9, men1, th1, f1, fa1) => ty_V ct S ph u9 ∧ rf_d (f 8) f f1 ∧ rf_R G (-1) f1) (cmB D ([(rf_MO mo mw ma mf m0 m1 mu mv u0 u1 iz th mb mn mpt mbg mwr mwk mlf men), (rf_RW ct 0 mw 958 f), (rf_RW ct 0 ma 958 fa)] ++ ws) sz (fun (u : va_W × Int32 × Int32 × (Nat → Int32) × (Nat → Int32)) => match u with | (u9, men1, th1, f1, fa1) => ([(rf_MO mo mw ma mf m0 m1 mu mv u0 u1 iz th1 mb mn mpt mbg mwr mwk mlf men1), (rf_RW ct 0 mw 958 f1), (rf_RW ct 0 ma 958 fa1)] ++ u9))) (va_A ([(rf_MO mo mw ma mf m0 m1 mu mv u0 u1 iz th mb mn mpt mbg mwr mwk mlf men), (rf_RW ct 0 mw 958 f), (rf_RW ct 0 ma 958 fa)] ++ ws) sz)) 0 0 (va_A ([(rf_MO mo mw ma mf m0 m1 mu mv u0 u1 iz th mb mn mpt mbg mwr mwk mlf men), (rf_RW ct 0 mw 958 f), (rf_RW ct 0 ma 958 fa)] ++ ws) sz) := by
  refine Met.ofW (cc := cX11_safeCurrent) (maxL := 4) (ret := (some .int)) (by decide) rfl ?_
  intro p e s m args below meth c s₁ B hml hv
  obtain ⟨rfl, hsz, hP, hK, hD0, hX⟩ := hv
  have hx := B.exec
  have hb := B.bytes
  have hr := B.returns
  have hts := ws_all (atoms_spec (ws := ws_ yX11_safeCurrent cX11_safeCurrent 4 (some .int)) B.pre)
  have hown : s.vm.findClass RX11 = some m.cls := findClass_of_methodNamed B.named
  have hlocks := B.notSynchronized
  subst hsz
  have hD := hD0.self (sz := s.heap.size)
  generalize hAe : va_A ([(rf_MO mo mw ma mf m0 m1 mu mv u0 u1 iz th mb mn mpt mbg mwr mwk mlf men), (rf_RW ct 0 mw 958 f), (rf_RW ct 0 ma 958 fa)] ++ ws) s.heap.size = A at hD hX ⊢
  have hA : ∀ q : Nat, s.heap.size ≤ q → A q := fun q h => by rw [← hAe]; exact Or.inr h
  have hS : va_S A s.heap s.heap [] := va_S.rf
  have hl := lv_entry ([.ref mo, .int p1, .int p2]) (n := 4) (Nat.le_of_ble_eq_true rfl)
  rw [lg_entry_eq]
  generalize (lg_sl ([.ref mo, .int p1, .int p2]) ++ List.replicate (4 - (lg_sl ([.ref mo, .int p1, .int p2])).length) Slot.unset).toArray = ls at hl ⊢
  have hl : lv_has ls 4 [(0, .ref mo), (1, .int p1), (2, .int p2)] := hl
  refine lv_aload_n hx hb dX11_safeCurrent_0 rfl (lv_at hl 0 rfl) ?_
  refine lv_iload_n hx hb dX11_safeCurrent_1 rfl (lv_at hl 1 rfl) ?_
  have hP : va_P D vwCl ([(rf_RW ct 0 ma 958 fa), (rf_MO mo mw ma mf m0 m1 mu mv u0 u1 iz th mb mn mpt mbg mwr mwk mlf men), (rf_RW ct 0 mw 958 f)] ++ ws) s.heap := ty_permP hP (ty_ordp (E := [(rf_MO mo mw ma mf m0 m1 mu mv u0 u1 iz th mb mn mpt mbg mwr mwk mlf men), (rf_RW ct 0 mw 958 f), (rf_RW ct 0 ma 958 fa)]) (E2 := [(rf_RW ct 0 ma 958 fa), (rf_MO mo mw ma mf m0 m1 mu mv u0 u1 iz th mb mn mpt mbg mwr mwk mlf men), (rf_RW ct 0 mw 958 f)]) (n := 3) [2, 0, 1] rfl rfl (by decide))
  have hD : va_D A ([(rf_RW ct 0 ma 958 fa), (rf_MO mo mw ma mf m0 m1 mu mv u0 u1 iz th mb mn mpt mbg mwr mwk mlf men), (rf_RW ct 0 mw 958 f)] ++ ws) := ty_permD hD (ty_ordp (E := [(rf_MO mo mw ma mf m0 m1 mu mv u0 u1 iz th mb mn mpt mbg mwr mwk mlf men), (rf_RW ct 0 mw 958 f), (rf_RW ct 0 ma 958 fa)]) (E2 := [(rf_RW ct 0 ma 958 fa), (rf_MO mo mw ma mf m0 m1 mu mv u0 u1 iz th mb mn mpt mbg mwr mwk mlf men), (rf_RW ct 0 mw 958 f)]) (n := 3) [2, 0, 1] rfl rfl (by decide))
  refine ty_ki (wr := [(rf_RW ct 0 ma 958 fa)]) (wc := ([(rf_MO mo mw ma mf m0 m1 mu mv u0 u1 iz th mb mn mpt mbg mwr mwk mlf men), (rf_RW ct 0 mw 958 f)] ++ ws)) (va_runV (As := [.int p1]) (rest := []) ⟨hx, hb, hml, hown, hts⟩ (m_X11_noChannel l D ct S ws ph xx mo mw ma mf m0 m1 mu mv u0 u1 iz mb th mn mpt mbg mwr mwk mlf men f G (-1) p1 _ hT h_mu h_mv h_u0 h_u1 hph hy1 hR) (cm_V 1 hts kc_X11_noChannel ki_RX11 kl_RX11_344 kv_X11_noChannel kx_X11_noChannel kd_X11_noChannel ⟨Nat.le_of_ble_eq_true rfl, Nat.le_of_ble_eq_true rfl⟩) (ty_preE (wr := [(rf_RW ct 0 ma 958 fa)]) (wc := ([(rf_MO mo mw ma mf m0 m1 mu mv u0 u1 iz th mb mn mpt mbg mwr mwk mlf men), (rf_RW ct 0 mw 958 f)] ++ ws)) (ci := 11) (q0 := 1) hP hK hD hS hA hX rfl rfl) rfl rfl hl.1 rfl (lv_room (Nat.le_of_ble_eq_true rfl)) dX11_safeCurrent_2 ⟨Nat.le_of_ble_eq_true rfl, Nat.le_of_ble_eq_true rfl⟩) hP hD hS hA (fun r_1 u H locs hw_2 hP hD hS => ?_)
  obtain ⟨ws_3, th1_4⟩ := u
  obtain ⟨hT, hp_5⟩ := hw_2
  have hp_5 : ((r_1 = 0 ∧ 0 ≤ p1.toInt ∧ p1.toInt < (G 9).toInt) ∨ r_1 = 1) := hp_5
  have hP : va_P D vwCl ([(rf_RW ct 0 ma 958 fa), (rf_MO mo mw ma mf m0 m1 mu mv u0 u1 iz th1_4 mb mn mpt mbg mwr mwk mlf men), (rf_RW ct 0 mw 958 f)] ++ ws_3) H := hP
  have hD : va_D A ([(rf_RW ct 0 ma 958 fa), (rf_MO mo mw ma mf m0 m1 mu mv u0 u1 iz th1_4 mb mn mpt mbg mwr mwk mlf men), (rf_RW ct 0 mw 958 f)] ++ ws_3) := hD
  rcases hp_5 with ⟨rfl, hz_6⟩ | rfl
  · refine lv_if_ne (tgt := 33) hx hb dX11_safeCurrent_5 (by decide) (fun hc => absurd (by decide) hc) (fun _ => ?_)
    refine lv_aload_n hx hb dX11_safeCurrent_8 rfl (lv_at hl 0 rfl) ?_
    refine lv_iload_n hx hb dX11_safeCurrent_9 rfl (lv_at hl 2 rfl) ?_
    refine lv_i2l hx hb dX11_safeCurrent_10 rfl ?_
    refine lv_topl (fun x_7 _ => ?_)
    refine lv_lconst (v := 1) hx hb dX11_safeCurrent_11 (by decide) ?_
    refine lv_ldc2 hx hb hown (hts _ kl_RX11_303) dX11_safeCurrent_12 ?_
    refine ty_ki (wr := [(rf_RW ct 0 ma 958 fa), (rf_MO mo mw ma mf m0 m1 mu mv u0 u1 iz th1_4 mb mn mpt mbg mwr mwk mlf men), (rf_RW ct 0 mw 958 f)]) (wc := ([] ++ ws_3)) (va_runS (As := [.long x_7, .long 1, .long 1000]) (rest := [.ref mo]) ⟨hx, hb, hml, hown, hts⟩ (m_X11_in l D ct S ws_3 ph xx x_7 (1 : Int64) (1000 : Int64) _ hT hph hy1) (cm_S 3 hts kc_X11_in ki_RX11 kl_RX11_70 ks_X11_in kd_X11_in ⟨Nat.le_of_ble_eq_true rfl, Nat.le_of_ble_eq_true rfl⟩) (ty_preS (wr := [(rf_RW ct 0 ma 958 fa), (rf_MO mo mw ma mf m0 m1 mu mv u0 u1 iz th1_4 mb mn mpt mbg mwr mwk mlf men), (rf_RW ct 0 mw 958 f)]) (wc := ([] ++ ws_3)) hP hK hD hS hA hX) rfl rfl hl.1 rfl (lv_room (Nat.le_of_ble_eq_true rfl)) dX11_safeCurrent_15 ⟨Nat.le_of_ble_eq_true rfl, Nat.le_of_ble_eq_true rfl⟩) hP hD hS hA (fun r_8 u H locs hw_9 hP hD hS => ?_)
    obtain ⟨ws_10, rfl⟩ : ∃ z, z = u := ⟨_, rfl⟩
    obtain ⟨hT, rfl⟩ := hw_9
    have hP : va_P D vwCl ([(rf_RW ct 0 ma 958 fa), (rf_MO mo mw ma mf m0 m1 mu mv u0 u1 iz th1_4 mb mn mpt mbg mwr mwk mlf men), (rf_RW ct 0 mw 958 f)] ++ ws_10) H := hP
    have hD : va_D A ([(rf_RW ct 0 ma 958 fa), (rf_MO mo mw ma mf m0 m1 mu mv u0 u1 iz th1_4 mb mn mpt mbg mwr mwk mlf men), (rf_RW ct 0 mw 958 f)] ++ ws_10) := hD
    refine lv_if_ne (tgt := 25) hx hb dX11_safeCurrent_18 (by decide) (fun hc_11 => ?_) (fun hc_11 => ?_)
    · refine lv_iconst (v := 0) hx hb dX11_safeCurrent_25 (by decide) ?_
      refine lv_iconst (v := 2) hx hb dX11_safeCurrent_26 (by decide) ?_
      have hP : va_P D vwCl ([(rf_RW ct 0 ma 958 fa), (rf_RW ct 0 mw 958 f), (rf_MO mo mw ma mf m0 m1 mu mv u0 u1 iz th1_4 mb mn mpt mbg mwr mwk mlf men)] ++ ws_10) H := ty_permP hP (ty_ordp (E := [(rf_RW ct 0 ma 958 fa), (rf_MO mo mw ma mf m0 m1 mu mv u0 u1 iz th1_4 mb mn mpt mbg mwr mwk mlf men), (rf_RW ct 0 mw 958 f)]) (E2 := [(rf_RW ct 0 ma 958 fa), (rf_RW ct 0 mw 958 f), (rf_MO mo mw ma mf m0 m1 mu mv u0 u1 iz th1_4 mb mn mpt mbg mwr mwk mlf men)]) (n := 3) [0, 2, 1] rfl rfl (by decide))
      have hD : va_D A ([(rf_RW ct 0 ma 958 fa), (rf_RW ct 0 mw 958 f), (rf_MO mo mw ma mf m0 m1 mu mv u0 u1 iz th1_4 mb mn mpt mbg mwr mwk mlf men)] ++ ws_10) := ty_permD hD (ty_ordp (E := [(rf_RW ct 0 ma 958 fa), (rf_MO mo mw ma mf m0 m1 mu mv u0 u1 iz th1_4 mb mn mpt mbg mwr mwk mlf men), (rf_RW ct 0 mw 958 f)]) (E2 := [(rf_RW ct 0 ma 958 fa), (rf_RW ct 0 mw 958 f), (rf_MO mo mw ma mf m0 m1 mu mv u0 u1 iz th1_4 mb mn mpt mbg mwr mwk mlf men)]) (n := 3) [0, 2, 1] rfl rfl (by decide))
      refine ty_ki (wr := [(rf_RW ct 0 ma 958 fa), (rf_RW ct 0 mw 958 f)]) (wc := ([(rf_MO mo mw ma mf m0 m1 mu mv u0 u1 iz th1_4 mb mn mpt mbg mwr mwk mlf men)] ++ ws_10)) (va_runV (As := [.int 0, .int 2]) (rest := []) ⟨hx, hb, hml, hown, hts⟩ (m_X11_throwsIf l D ct S ws_10 ph xx mo mw ma mf m0 m1 mu mv u0 u1 iz mb th1_4 mn mpt mbg mwr mwk mlf men (0 : Int32) (2 : Int32) _ hT h_mu h_mv h_u0 h_u1 hph hy1 (by decide)) (cm_V 2 hts kc_X11_throwsIf ki_RX11 kl_RX11_328 kv_X11_throwsIf kx_X11_throwsIf kd_X11_throwsIf ⟨Nat.le_of_ble_eq_true rfl, Nat.le_of_ble_eq_true rfl⟩) (ty_preE (wr := [(rf_RW ct 0 ma 958 fa), (rf_RW ct 0 mw 958 f)]) (wc := ([(rf_MO mo mw ma mf m0 m1 mu mv u0 u1 iz th1_4 mb mn mpt mbg mwr mwk mlf men)] ++ ws_10)) (ci := 11) (q0 := 2) hP hK hD hS hA hX rfl rfl) rfl rfl hl.1 rfl (lv_room (Nat.le_of_ble_eq_true rfl)) dX11_safeCurrent_27 ⟨Nat.le_of_ble_eq_true rfl, Nat.le_of_ble_eq_true rfl⟩) hP hD hS hA (fun r_12 u H locs hw_13 hP hD hS => ?_)
      obtain ⟨ws_14, th1_15⟩ := u
      obtain ⟨hT, hp_16⟩ := hw_13
      have hp_16 : ((r_12 = 0 ∧ (0 : Int32) = 0) ∨ r_12 = 1) := hp_16
      have hP : va_P D vwCl ([(rf_RW ct 0 ma 958 fa), (rf_RW ct 0 mw 958 f), (rf_MO mo mw ma mf m0 m1 mu mv u0 u1 iz th1_15 mb mn mpt mbg mwr mwk mlf men)] ++ ws_14) H := hP
      have hD : va_D A ([(rf_RW ct 0 ma 958 fa), (rf_RW ct 0 mw 958 f), (rf_MO mo mw ma mf m0 m1 mu mv u0 u1 iz th1_15 mb mn mpt mbg mwr mwk mlf men)] ++ ws_14) := hD
      rcases hp_16 with ⟨rfl, hz_17⟩ | rfl
      · refine lv_if_eq (tgt := 35) hx hb dX11_safeCurrent_30 (by decide) (fun _ => ?_) (fun hc => absurd (by decide) hc)
        refine lv_sipush (v := 5000) hx hb dX11_safeCurrent_35 (by decide) ?_
        refine lv_istore_n (lv' := [(3, .int 5000), (0, .ref mo), (1, .int p1), (2, .int p2)]) hx hb dX11_safeCurrent_38 rfl hl (by decide) rfl (fun ls hl => ?_)
        refine ty_loop (I := fun μ H locs ls => ∃ (ws : va_W) (y_18 : Int32) (y_19 : Int32) (f_20 : Nat → Int32) (g_21 : Nat → Int32), μ = (y_18.toInt + 2147483648).toNat ∧ ty_V ct S ph ws ∧ va_P D vwCl ([(rf_RW ct 0 ma 958 g_21), (rf_RW ct 0 mw 958 f_20), (rf_MO mo mw ma mf m0 m1 mu mv u0 u1 iz th1_15 mb mn mpt mbg mwr mwk mlf y_19)] ++ ws) H ∧ va_D A ([(rf_RW ct 0 ma 958 g_21), (rf_RW ct 0 mw 958 f_20), (rf_MO mo mw ma mf m0 m1 mu mv u0 u1 iz th1_15 mb mn mpt mbg mwr mwk mlf y_19)] ++ ws) ∧ va_S A s.heap H locs ∧ lv_has ls 4 [(0, .ref mo), (1, .int p1), (2, .int p2), (3, .int y_18)] ∧ rf_R G (-1) f_20 ∧ rf_d (f 8) f f_20 ∧ y_18.toInt ≤ 5000) ⟨_, ws_14, (5000 : Int32), men, f, fa, rfl, hT, hP, hD, hS, (lv_sub hl [1, 2, 3, 0] rfl), hR, (rf_dr f), (by decide)⟩ (fun μ H locs ls hI ih_39 => ?_)
        obtain ⟨ws, y_18, y_19, f_20, g_21, rfl, hT, hP, hD, hS, hl, hR_39, hD_39, hex_39⟩ := hI
        refine lv_iload_n hx hb dX11_safeCurrent_39 rfl (lv_at hl 3 rfl) ?_
        refine lv_bipush (v := 100) hx hb dX11_safeCurrent_40 (by decide) ?_
        refine lv_icmp_lt (tgt := 63) hx hb dX11_safeCurrent_42 (by decide) (fun hc_22 => ?_) (fun hc_22 => ?_)
        · refine lv_iconst (v := (-1)) hx hb dX11_safeCurrent_63 (by decide) ?_
          have hP : va_P D vwCl ([(rf_MO mo mw ma mf m0 m1 mu mv u0 u1 iz th1_15 mb mn mpt mbg mwr mwk mlf y_19), (rf_RW ct 0 mw 958 f_20), (rf_RW ct 0 ma 958 g_21)] ++ ws) H := ty_permP hP (ty_ordp (E := [(rf_RW ct 0 ma 958 g_21), (rf_RW ct 0 mw 958 f_20), (rf_MO mo mw ma mf m0 m1 mu mv u0 u1 iz th1_15 mb mn mpt mbg mwr mwk mlf y_19)]) (E2 := [(rf_MO mo mw ma mf m0 m1 mu mv u0 u1 iz th1_15 mb mn mpt mbg mwr mwk mlf y_19), (rf_RW ct 0 mw 958 f_20), (rf_RW ct 0 ma 958 g_21)]) (n := 3) [2, 1, 0] rfl rfl (by decide))
          have hD : va_D A ([(rf_MO mo mw ma mf m0 m1 mu mv u0 u1 iz th1_15 mb mn mpt mbg mwr mwk mlf y_19), (rf_RW ct 0 mw 958 f_20), (rf_RW ct 0 ma 958 g_21)] ++ ws) := ty_permD hD (ty_ordp (E := [(rf_RW ct 0 ma 958 g_21), (rf_RW ct 0 mw 958 f_20), (rf_MO mo mw ma mf m0 m1 mu mv u0 u1 iz th1_15 mb mn mpt mbg mwr mwk mlf y_19)]) (E2 := [(rf_MO mo mw ma mf m0 m1 mu mv u0 u1 iz th1_15 mb mn mpt mbg mwr mwk mlf y_19), (rf_RW ct 0 mw 958 f_20), (rf_RW ct 0 ma 958 g_21)]) (n := 3) [2, 1, 0] rfl rfl (by decide))
          exact W.iret (v := (-1)) hx hb hr (fun t ht hW => ⟨⟨(-1), (ws, y_19, th1_15, f_20, g_21), rfl, ⟨hT, ⟨hD_39, hR_39⟩⟩, by rw [ht]; exact hP, by rw [hAe]; exact hD⟩, hS.F ht⟩) hS.2.2 dX11_safeCurrent_64
        · refine lv_aload_n hx hb dX11_safeCurrent_45 rfl (lv_at hl 0 rfl) ?_
          refine lv_iload_n hx hb dX11_safeCurrent_46 rfl (lv_at hl 1 rfl) ?_
          refine lv_iload_n hx hb dX11_safeCurrent_47 rfl (lv_at hl 3 rfl) ?_
          refine lv_iload_n hx hb dX11_safeCurrent_48 rfl (lv_at hl 2 rfl) ?_
          have hP : va_P D vwCl ([(rf_MO mo mw ma mf m0 m1 mu mv u0 u1 iz th1_15 mb mn mpt mbg mwr mwk mlf y_19), (rf_RW ct 0 mw 958 f_20), (rf_RW ct 0 ma 958 g_21)] ++ ws) H := ty_permP hP (ty_ordp (E := [(rf_RW ct 0 ma 958 g_21), (rf_RW ct 0 mw 958 f_20), (rf_MO mo mw ma mf m0 m1 mu mv u0 u1 iz th1_15 mb mn mpt mbg mwr mwk mlf y_19)]) (E2 := [(rf_MO mo mw ma mf m0 m1 mu mv u0 u1 iz th1_15 mb mn mpt mbg mwr mwk mlf y_19), (rf_RW ct 0 mw 958 f_20), (rf_RW ct 0 ma 958 g_21)]) (n := 3) [2, 1, 0] rfl rfl (by decide))
          have hD : va_D A ([(rf_MO mo mw ma mf m0 m1 mu mv u0 u1 iz th1_15 mb mn mpt mbg mwr mwk mlf y_19), (rf_RW ct 0 mw 958 f_20), (rf_RW ct 0 ma 958 g_21)] ++ ws) := ty_permD hD (ty_ordp (E := [(rf_RW ct 0 ma 958 g_21), (rf_RW ct 0 mw 958 f_20), (rf_MO mo mw ma mf m0 m1 mu mv u0 u1 iz th1_15 mb mn mpt mbg mwr mwk mlf y_19)]) (E2 := [(rf_MO mo mw ma mf m0 m1 mu mv u0 u1 iz th1_15 mb mn mpt mbg mwr mwk mlf y_19), (rf_RW ct 0 mw 958 f_20), (rf_RW ct 0 ma 958 g_21)]) (n := 3) [2, 1, 0] rfl rfl (by decide))
          refine ty_ki (wr := []) (wc := ([(rf_MO mo mw ma mf m0 m1 mu mv u0 u1 iz th1_15 mb mn mpt mbg mwr mwk mlf y_19), (rf_RW ct 0 mw 958 f_20), (rf_RW ct 0 ma 958 g_21)] ++ ws)) (va_runV (As := [.int p1, .int y_18, .int p2]) (rest := []) ⟨hx, hb, hml, hown, hts⟩ (m_X11_isSafe l D ct S ws ph xx mo mw ma mf m0 m1 mu mv u0 u1 iz mb th1_15 mn mpt mbg mwr mwk mlf y_19 f_20 G g_21 p1 y_18 p2 _ hT h_mu h_mv h_u0 h_u1 hph hy1 hy11 hR_39 hz_6 ⟨rf_n100 hc_22, hex_39⟩) (cm_V 3 hts kc_X11_isSafe ki_RX11 kl_RX11_399 kv_X11_isSafe kx_X11_isSafe kd_X11_isSafe ⟨Nat.le_of_ble_eq_true rfl, Nat.le_of_ble_eq_true rfl⟩) (ty_preE (wr := []) (wc := ([(rf_MO mo mw ma mf m0 m1 mu mv u0 u1 iz th1_15 mb mn mpt mbg mwr mwk mlf y_19), (rf_RW ct 0 mw 958 f_20), (rf_RW ct 0 ma 958 g_21)] ++ ws)) (ci := 11) (q0 := 0) hP hK hD hS hA hX rfl rfl) rfl rfl hl.1 rfl (lv_room (Nat.le_of_ble_eq_true rfl)) dX11_safeCurrent_49 ⟨Nat.le_of_ble_eq_true rfl, Nat.le_of_ble_eq_true rfl⟩) hP hD hS hA (fun r_23 u H locs hw_24 hP hD hS => ?_)
          obtain ⟨ws_25, men1_26, f1_27, fa1_28⟩ := u
          obtain ⟨hT, hp_29⟩ := hw_24
          have hp_29 : rf_d (f_20 8) f_20 f1_27 ∧ rf_R G (-1) f1_27 := hp_29
          obtain ⟨hd_30, hq_31⟩ := hp_29
          have hD_32 := rf_dt hD_39 hd_30
          have hR_33 := hq_31
          have hP : va_P D vwCl ([(rf_MO mo mw ma mf m0 m1 mu mv u0 u1 iz th1_15 mb mn mpt mbg mwr mwk mlf men1_26), (rf_RW ct 0 mw 958 f1_27), (rf_RW ct 0 ma 958 fa1_28)] ++ ws_25) H := hP
          have hD : va_D A ([(rf_MO mo mw ma mf m0 m1 mu mv u0 u1 iz th1_15 mb mn mpt mbg mwr mwk mlf men1_26), (rf_RW ct 0 mw 958 f1_27), (rf_RW ct 0 ma 958 fa1_28)] ++ ws_25) := hD
          refine lv_if_eq (tgt := 57) hx hb dX11_safeCurrent_52 (by decide) (fun hc_35 => ?_) (fun hc_35 => ?_)
          · refine lv_iinc (v := (y_18 + Int32.ofInt (-100))) (lv' := [(3, .int (y_18 + Int32.ofInt (-100))), (0, .ref mo), (1, .int p1), (2, .int p2)]) hx hb dX11_safeCurrent_57 hl (k := 3) rfl rfl (by decide) rfl (fun ls hl => ?_)
            refine lv_goto (tgt := 39) hx hb dX11_safeCurrent_60 (by decide) ?_
            have hP : va_P D vwCl ([(rf_RW ct 0 ma 958 fa1_28), (rf_RW ct 0 mw 958 f1_27), (rf_MO mo mw ma mf m0 m1 mu mv u0 u1 iz th1_15 mb mn mpt mbg mwr mwk mlf men1_26)] ++ ws_25) H := ty_permP hP (ty_ordp (E := [(rf_MO mo mw ma mf m0 m1 mu mv u0 u1 iz th1_15 mb mn mpt mbg mwr mwk mlf men1_26), (rf_RW ct 0 mw 958 f1_27), (rf_RW ct 0 ma 958 fa1_28)]) (E2 := [(rf_RW ct 0 ma 958 fa1_28), (rf_RW ct 0 mw 958 f1_27), (rf_MO mo mw ma mf m0 m1 mu mv u0 u1 iz th1_15 mb mn mpt mbg mwr mwk mlf men1_26)]) (n := 3) [2, 1, 0] rfl rfl (by decide))
            have hD : va_D A ([(rf_RW ct 0 ma 958 fa1_28), (rf_RW ct 0 mw 958 f1_27), (rf_MO mo mw ma mf m0 m1 mu mv u0 u1 iz th1_15 mb mn mpt mbg mwr mwk mlf men1_26)] ++ ws_25) := ty_permD hD (ty_ordp (E := [(rf_MO mo mw ma mf m0 m1 mu mv u0 u1 iz th1_15 mb mn mpt mbg mwr mwk mlf men1_26), (rf_RW ct 0 mw 958 f1_27), (rf_RW ct 0 ma 958 fa1_28)]) (E2 := [(rf_RW ct 0 ma 958 fa1_28), (rf_RW ct 0 mw 958 f1_27), (rf_MO mo mw ma mf m0 m1 mu mv u0 u1 iz th1_15 mb mn mpt mbg mwr mwk mlf men1_26)]) (n := 3) [2, 1, 0] rfl rfl (by decide))
            exact ih_39 _ _ _ _ (by have := rf_n100 hc_22; have := rf_m100 this; omega) ⟨ws_25, (y_18 + Int32.ofInt (-100)), men1_26, f1_27, fa1_28, rfl, hT, hP, hD, hS, (lv_sub hl [1, 2, 3, 0] rfl), hR_33, hD_32, (by have := rf_n100 hc_22; have := rf_m100 this; have := hex_39; omega)⟩
          · refine lv_iload_n hx hb dX11_safeCurrent_55 rfl (lv_at hl 3 rfl) ?_
            exact W.iret (v := y_18) hx hb hr (fun t ht hW => ⟨⟨y_18, (ws_25, men1_26, th1_15, f1_27, fa1_28), rfl, ⟨hT, ⟨hD_32, hR_33⟩⟩, by rw [ht]; exact hP, by rw [hAe]; exact hD⟩, hS.F ht⟩) hS.2.2 dX11_safeCurrent_56
      · refine lv_if_eq (tgt := 35) hx hb dX11_safeCurrent_30 (by decide) (fun hc => absurd hc (by decide)) (fun _ => ?_)
        refine lv_iconst (v := 0) hx hb dX11_safeCurrent_33 (by decide) ?_
        have hP : va_P D vwCl ([(rf_MO mo mw ma mf m0 m1 mu mv u0 u1 iz th1_15 mb mn mpt mbg mwr mwk mlf men), (rf_RW ct 0 mw 958 f), (rf_RW ct 0 ma 958 fa)] ++ ws_14) H := ty_permP hP (ty_ordp (E := [(rf_RW ct 0 ma 958 fa), (rf_RW ct 0 mw 958 f), (rf_MO mo mw ma mf m0 m1 mu mv u0 u1 iz th1_15 mb mn mpt mbg mwr mwk mlf men)]) (E2 := [(rf_MO mo mw ma mf m0 m1 mu mv u0 u1 iz th1_15 mb mn mpt mbg mwr mwk mlf men), (rf_RW ct 0 mw 958 f), (rf_RW ct 0 ma 958 fa)]) (n := 3) [2, 1, 0] rfl rfl (by decide))
        have hD : va_D A ([(rf_MO mo mw ma mf m0 m1 mu mv u0 u1 iz th1_15 mb mn mpt mbg mwr mwk mlf men), (rf_RW ct 0 mw 958 f), (rf_RW ct 0 ma 958 fa)] ++ ws_14) := ty_permD hD (ty_ordp (E := [(rf_RW ct 0 ma 958 fa), (rf_RW ct 0 mw 958 f), (rf_MO mo mw ma mf m0 m1 mu mv u0 u1 iz th1_15 mb mn mpt mbg mwr mwk mlf men)]) (E2 := [(rf_MO mo mw ma mf m0 m1 mu mv u0 u1 iz th1_15 mb mn mpt mbg mwr mwk mlf men), (rf_RW ct 0 mw 958 f), (rf_RW ct 0 ma 958 fa)]) (n := 3) [2, 1, 0] rfl rfl (by decide))
        exact W.iret (v := 0) hx hb hr (fun t ht hW => ⟨⟨0, (ws_14, men, th1_15, f, fa), rfl, ⟨hT, ⟨(rf_dr f), hR⟩⟩, by rw [ht]; exact hP, by rw [hAe]; exact hD⟩, hS.F ht⟩) hS.2.2 dX11_safeCurrent_34
    · refine lv_iconst (v := 1) hx hb dX11_safeCurrent_21 (by decide) ?_
      refine lv_goto (tgt := 26) hx hb dX11_safeCurrent_22 (by decide) ?_
      refine lv_iconst (v := 2) hx hb dX11_safeCurrent_26 (by decide) ?_
      have hP : va_P D vwCl ([(rf_RW ct 0 ma 958 fa), (rf_RW ct 0 mw 958 f), (rf_MO mo mw ma mf m0 m1 mu mv u0 u1 iz th1_4 mb mn mpt mbg mwr mwk mlf men)] ++ ws_10) H := ty_permP hP (ty_ordp (E := [(rf_RW ct 0 ma 958 fa), (rf_MO mo mw ma mf m0 m1 mu mv u0 u1 iz th1_4 mb mn mpt mbg mwr mwk mlf men), (rf_RW ct 0 mw 958 f)]) (E2 := [(rf_RW ct 0 ma 958 fa), (rf_RW ct 0 mw 958 f), (rf_MO mo mw ma mf m0 m1 mu mv u0 u1 iz th1_4 mb mn mpt mbg mwr mwk mlf men)]) (n := 3) [0, 2, 1] rfl rfl (by decide))
      have hD : va_D A ([(rf_RW ct 0 ma 958 fa), (rf_RW ct 0 mw 958 f), (rf_MO mo mw ma mf m0 m1 mu mv u0 u1 iz th1_4 mb mn mpt mbg mwr mwk mlf men)] ++ ws_10) := ty_permD hD (ty_ordp (E := [(rf_RW ct 0 ma 958 fa), (rf_MO mo mw ma mf m0 m1 mu mv u0 u1 iz th1_4 mb mn mpt mbg mwr mwk mlf men), (rf_RW ct 0 mw 958 f)]) (E2 := [(rf_RW ct 0 ma 958 fa), (rf_RW ct 0 mw 958 f), (rf_MO mo mw ma mf m0 m1 mu mv u0 u1 iz th1_4 mb mn mpt mbg mwr mwk mlf men)]) (n := 3) [0, 2, 1] rfl rfl (by decide))
      refine ty_ki (wr := [(rf_RW ct 0 ma 958 fa), (rf_RW ct 0 mw 958 f)]) (wc := ([(rf_MO mo mw ma mf m0 m1 mu mv u0 u1 iz th1_4 mb mn mpt mbg mwr mwk mlf men)] ++ ws_10)) (va_runV (As := [.int 1, .int 2]) (rest := []) ⟨hx, hb, hml, hown, hts⟩ (m_X11_throwsIf l D ct S ws_10 ph xx mo mw ma mf m0 m1 mu mv u0 u1 iz mb th1_4 mn mpt mbg mwr mwk mlf men (1 : Int32) (2 : Int32) _ hT h_mu h_mv h_u0 h_u1 hph hy1 (by decide)) (cm_V 2 hts kc_X11_throwsIf ki_RX11 kl_RX11_328 kv_X11_throwsIf kx_X11_throwsIf kd_X11_throwsIf ⟨Nat.le_of_ble_eq_true rfl, Nat.le_of_ble_eq_true rfl⟩) (ty_preE (wr := [(rf_RW ct 0 ma 958 fa), (rf_RW ct 0 mw 958 f)]) (wc := ([(rf_MO mo mw ma mf m0 m1 mu mv u0 u1 iz th1_4 mb mn mpt mbg mwr mwk mlf men)] ++ ws_10)) (ci := 11) (q0 := 2) hP hK hD hS hA hX rfl rfl) rfl rfl hl.1 rfl (lv_room (Nat.le_of_ble_eq_true rfl)) dX11_safeCurrent_27 ⟨Nat.le_of_ble_eq_true rfl, Nat.le_of_ble_eq_true rfl⟩) hP hD hS hA (fun r_36 u H locs hw_37 hP hD hS => ?_)
      obtain ⟨ws_38, th1_39⟩ := u
      obtain ⟨hT, hp_40⟩ := hw_37
      have hp_40 : ((r_36 = 0 ∧ (1 : Int32) = 0) ∨ r_36 = 1) := hp_40
      have hP : va_P D vwCl ([(rf_RW ct 0 ma 958 fa), (rf_RW ct 0 mw 958 f), (rf_MO mo mw ma mf m0 m1 mu mv u0 u1 iz th1_39 mb mn mpt mbg mwr mwk mlf men)] ++ ws_38) H := hP
      have hD : va_D A ([(rf_RW ct 0 ma 958 fa), (rf_RW ct 0 mw 958 f), (rf_MO mo mw ma mf m0 m1 mu mv u0 u1 iz th1_39 mb mn mpt mbg mwr mwk mlf men)] ++ ws_38) := hD
      rcases hp_40 with ⟨rfl, hz_41⟩ | rfl
      · exact absurd hz_41 (by decide)
      · refine lv_if_eq (tgt := 35) hx hb dX11_safeCurrent_30 (by decide) (fun hc => absurd hc (by decide)) (fun _ => ?_)
        refine lv_iconst (v := 0) hx hb dX11_safeCurrent_33 (by decide) ?_
        have hP : va_P D vwCl ([(rf_MO mo mw ma mf m0 m1 mu mv u0 u1 iz th1_39 mb mn mpt mbg mwr mwk mlf men), (rf_RW ct 0 mw 958 f), (rf_RW ct 0 ma 958 fa)] ++ ws_38) H := ty_permP hP (ty_ordp (E := [(rf_RW ct 0 ma 958 fa), (rf_RW ct 0 mw 958 f), (rf_MO mo mw ma mf m0 m1 mu mv u0 u1 iz th1_39 mb mn mpt mbg mwr mwk mlf men)]) (E2 := [(rf_MO mo mw ma mf m0 m1 mu mv u0 u1 iz th1_39 mb mn mpt mbg mwr mwk mlf men), (rf_RW ct 0 mw 958 f), (rf_RW ct 0 ma 958 fa)]) (n := 3) [2, 1, 0] rfl rfl (by decide))
        have hD : va_D A ([(rf_MO mo mw ma mf m0 m1 mu mv u0 u1 iz th1_39 mb mn mpt mbg mwr mwk mlf men), (rf_RW ct 0 mw 958 f), (rf_RW ct 0 ma 958 fa)] ++ ws_38) := ty_permD hD (ty_ordp (E := [(rf_RW ct 0 ma 958 fa), (rf_RW ct 0 mw 958 f), (rf_MO mo mw ma mf m0 m1 mu mv u0 u1 iz th1_39 mb mn mpt mbg mwr mwk mlf men)]) (E2 := [(rf_MO mo mw ma mf m0 m1 mu mv u0 u1 iz th1_39 mb mn mpt mbg mwr mwk mlf men), (rf_RW ct 0 mw 958 f), (rf_RW ct 0 ma 958 fa)]) (n := 3) [2, 1, 0] rfl rfl (by decide))
        exact W.iret (v := 0) hx hb hr (fun t ht hW => ⟨⟨0, (ws_38, men, th1_39, f, fa), rfl, ⟨hT, ⟨(rf_dr f), hR⟩⟩, by rw [ht]; exact hP, by rw [hAe]; exact hD⟩, hS.F ht⟩) hS.2.2 dX11_safeCurrent_34
  · refine lv_if_ne (tgt := 33) hx hb dX11_safeCurrent_5 (by decide) (fun _ => ?_) (fun hc => absurd hc (by decide))
    refine lv_iconst (v := 0) hx hb dX11_safeCurrent_33 (by decide) ?_
    have hP : va_P D vwCl ([(rf_MO mo mw ma mf m0 m1 mu mv u0 u1 iz th1_4 mb mn mpt mbg mwr mwk mlf men), (rf_RW ct 0 mw 958 f), (rf_RW ct 0 ma 958 fa)] ++ ws_3) H := ty_permP hP (ty_ordp (E := [(rf_RW ct 0 ma 958 fa), (rf_MO mo mw ma mf m0 m1 mu mv u0 u1 iz th1_4 mb mn mpt mbg mwr mwk mlf men), (rf_RW ct 0 mw 958 f)]) (E2 := [(rf_MO mo mw ma mf m0 m1 mu mv u0 u1 iz th1_4 mb mn mpt mbg mwr mwk mlf men), (rf_RW ct 0 mw 958 f), (rf_RW ct 0 ma 958 fa)]) (n := 3) [1, 2, 0] rfl rfl (by decide))
    have hD : va_D A ([(rf_MO mo mw ma mf m0 m1 mu mv u0 u1 iz th1_4 mb mn mpt mbg mwr mwk mlf men), (rf_RW ct 0 mw 958 f), (rf_RW ct 0 ma 958 fa)] ++ ws_3) := ty_permD hD (ty_ordp (E := [(rf_RW ct 0 ma 958 fa), (rf_MO mo mw ma mf m0 m1 mu mv u0 u1 iz th1_4 mb mn mpt mbg mwr mwk mlf men), (rf_RW ct 0 mw 958 f)]) (E2 := [(rf_MO mo mw ma mf m0 m1 mu mv u0 u1 iz th1_4 mb mn mpt mbg mwr mwk mlf men), (rf_RW ct 0 mw 958 f), (rf_RW ct 0 ma 958 fa)]) (n := 3) [1, 2, 0] rfl rfl (by decide))
    exact W.iret (v := 0) hx hb hr (fun t ht hW => ⟨⟨0, (ws_3, men, th1_4, f, fa), rfl, ⟨hT, ⟨(rf_dr f), hR⟩⟩, by rw [ht]; exact hP, by rw [hAe]; exact hD⟩, hS.F ht⟩) hS.2.2 dX11_safeCurrent_34
