theorem dX11_setLimits_76 : decode cX11_setLimits 76 = .ok (.iload_n 3, 1) := by decide +kernel
theorem dX11_setLimits_77 : decode cX11_setLimits 77 = .ok (.aload_n 0, 1) := by decide +kernel
theorem dX11_setLimits_78 : decode cX11_setLimits 78 = .ok (.iload 4, 2) := by decide +kernel
theorem dX11_setLimits_80 : decode cX11_setLimits 80 = .ok (.iconst 0, 1) := by decide +kernel
theorem dX11_setLimits_81 : decode cX11_setLimits 81 = .ok (.invokevirtual 209, 3) := by decide +kernel
theorem dX11_setLimits_84 : decode cX11_setLimits 84 = .ok (.iconst 1, 1) := by decide +kernel
theorem dX11_setLimits_85 : decode cX11_setLimits 85 = .ok (.if_icmp .ne 25, 3) := by decide +kernel
theorem dX11_setLimits_88 : decode cX11_setLimits 88 = .ok (.aload_n 0, 1) := by decide +kernel
theorem dX11_setLimits_89 : decode cX11_setLimits 89 = .ok (.iload 4, 2) := by decide +kernel
theorem dX11_setLimits_91 : decode cX11_setLimits 91 = .ok (.iconst 5, 1) := by decide +kernel
theorem dX11_setLimits_92 : decode cX11_setLimits 92 = .ok (.invokevirtual 209, 3) := by decide +kernel
theorem dX11_setLimits_95 : decode cX11_setLimits 95 = .ok (.i2l, 1) := by decide +kernel
theorem dX11_setLimits_96 : decode cX11_setLimits 96 = .ok (.iload_n 1, 1) := by decide +kernel
theorem dX11_setLimits_97 : decode cX11_setLimits 97 = .ok (.i2l, 1) := by decide +kernel
theorem dX11_setLimits_98 : decode cX11_setLimits 98 = .ok (.iload_n 2, 1) := by decide +kernel
theorem dX11_setLimits_99 : decode cX11_setLimits 99 = .ok (.i2l, 1) := by decide +kernel
theorem dX11_setLimits_100 : decode cX11_setLimits 100 = .ok (.invokestatic 70, 3) := by decide +kernel
theorem dX11_setLimits_103 : decode cX11_setLimits 103 = .ok (.ifCond .ne 7, 3) := by decide +kernel
theorem dX11_setLimits_106 : decode cX11_setLimits 106 = .ok (.iconst 1, 1) := by decide +kernel
theorem dX11_setLimits_107 : decode cX11_setLimits 107 = .ok (.goto 4, 3) := by decide +kernel
theorem dX11_setLimits_110 : decode cX11_setLimits 110 = .ok (.iconst 0, 1) := by decide +kernel
theorem dX11_setLimits_111 : decode cX11_setLimits 111 = .ok (.iadd, 1) := by decide +kernel
theorem dX11_setLimits_112 : decode cX11_setLimits 112 = .ok (.istore_n 3, 1) := by decide +kernel
theorem dX11_setLimits_113 : decode cX11_setLimits 113 = .ok (.iinc 4 1, 3) := by decide +kernel
theorem dX11_setLimits_116 : decode cX11_setLimits 116 = .ok (.goto (-52), 3) := by decide +kernel
theorem dX11_setLimits_119 : decode cX11_setLimits 119 = .ok (.iload_n 3, 1) := by decide +kernel
theorem dX11_setLimits_120 : decode cX11_setLimits 120 = .ok (.ireturn, 1) := by decide +kernel
set_option maxRecDepth 100000 in
set_option maxHeartbeats 4000000 in
theorem m_X11_setLimits (l : Launch) (D : va_G) (ct : Nat → ClassId) (S : ty_S) (ws : va_W) (mo : Nat) (mw : Nat) (ma : Nat) (mf : Nat) (m0 : Nat) (m1 : Nat) (mu : Nat) (mv : Nat) (u0 : Nat) (u1 : Nat) (iz : Nat) (mb : Nat) (th : Int32) (mn : Int32) (mpt : Int32) (mbg : Int32) (mwr : Int32) (mwk : Int32) (mlf : Int32) (men : Int32) (f : Nat → Int32) (G : Nat → Int32) (cx : Int) (p1 : Int32) (p2 : Int32) (sz : Nat) (hT : ty_W ct S ws) (h_mu : S mu = some (.inr (1, 42))) (h_mv : S mv = some (.inr (1, 42))) (h_u0 : S u0 = some (.inr (1, 42))) (h_u1 : S u1 = some (.inr (1, 42))) (hR : rf_R G cx f) : Met l yX11_setLimits (ws_ yX11_setLimits cX11_setLimits 5 (some .int)) ({ frames := 1, cells := 0, slots := 0, locals := 25 } : Room) (va_Pc [.ref mo, .int p1, .int p2] (cmP D ct sz ([(mo, .inr (11, [.ref mw, .ref ma, .ref mf, .ref m0, .ref m1, .ref mu, .ref mv, .ref u0, .ref u1, .ref iz, .int th, .ref mb, .int mn, .int mpt, .int mbg, .int mwr, .int mwk, .int mlf, .int men])), (mw, .inl (ct 0, 958, .inl f))] ++ ws))) (va_Qi (fun (r : Int32) (u : va_W × Int32 × (Nat → Int32)) => match u with | (u9, th1, f1) => ty_W ct S u9 ∧ rf_R G cx f1 ∧ rf_sm f f1) (cmB D ([(mo, .inr (11, [.ref mw, .ref ma, .ref mf, .ref m0, .ref m1, .ref mu, .ref mv, .ref u0, .ref u1, .ref iz, .int th, .ref mb, .int mn, .int mpt, .int mbg, .int mwr, .int mwk, .int mlf, .int men])), (mw, .inl (ct 0, 958, .inl f))] ++ ws) sz (fun (u : va_W × Int32 × (Nat → Int32)) => match u with | (u9, th1, f1) => ([(mo, .inr (11, [.ref mw, .ref ma, .ref mf, .ref m0, .ref m1, .ref mu, .ref mv, .ref u0, .ref u1, .ref iz, .int th1, .ref mb, .int mn, .int mpt, .int mbg, .int mwr, .int mwk, .int mlf, .int men])), (mw, .inl (ct 0, 958, .inl f1))] ++ u9))) (va_A ([(mo, .inr (11, [.ref mw, .ref ma, .ref mf, .ref m0, .ref m1, .ref mu, .ref mv, .ref u0, .ref u1, .ref iz, .int th, .ref mb, .int mn, .int mpt, .int mbg, .int mwr, .int mwk, .int mlf, .int men])), (mw, .inl (ct 0, 958, .inl f))] ++ ws) sz)) 0 0 (va_A ([(mo, .inr (11, [.ref mw, .ref ma, .ref mf, .ref m0, .ref m1, .ref mu, .ref mv, .ref u0, .ref u1, .ref iz, .int th, .ref mb, .int mn, .int mpt, .int mbg, .int mwr, .int mwk, .int mlf, .int men])), (mw, .inl (ct 0, 958, .inl f))] ++ ws) sz) := by
  refine Met.ofW (cc := cX11_setLimits) (maxL := 5) (ret := (some .int)) (by decide) rfl ?_
  intro p e s m args below meth c s₁ B hml hv
  obtain ⟨rfl, hsz, hP, hK, hD0, hX⟩ := hv
  have hx := B.exec
  have hb := B.bytes
  have hr := B.returns
  have hts := ws_all (atoms_spec (ws := ws_ yX11_setLimits cX11_setLimits 5 (some .int)) B.pre)
  have hown : s.vm.findClass RX11 = some m.cls := findClass_of_methodNamed B.named
  have hlocks := B.notSynchronized
  subst hsz
  have hD := hD0.self (sz := s.heap.size)
  generalize hAe : va_A ([(mo, .inr (11, [.ref mw, .ref ma, .ref mf, .ref m0, .ref m1, .ref mu, .ref mv, .ref u0, .ref u1, .ref iz, .int th, .ref mb, .int mn, .int mpt, .int mbg, .int mwr, .int mwk, .int mlf, .int men])), (mw, .inl (ct 0, 958, .inl f))] ++ ws) s.heap.size = A at hD hX ⊢
  have hA : ∀ q : Nat, s.heap.size ≤ q → A q := fun q h => by rw [← hAe]; exact Or.inr h
  have hS : va_S A s.heap s.heap [] := va_S.rf
  have hl := lv_entry ([.ref mo, .int p1, .int p2]) (n := 5) (Nat.le_of_ble_eq_true rfl)
  rw [lg_entry_eq]
  generalize (lg_sl ([.ref mo, .int p1, .int p2]) ++ List.replicate (5 - (lg_sl ([.ref mo, .int p1, .int p2])).length) Slot.unset).toArray = ls at hl ⊢
  have hl : lv_has ls 5 [(0, .ref mo), (1, .int p1), (2, .int p2)] := hl
  refine lv_aload_n hx hb dX11_setLimits_0 rfl (lv_at hl 0 rfl) ?_
  refine lv_iconst (v := 0) hx hb dX11_setLimits_1 (by decide) ?_
  refine va_put (v := .int 0) (ty := .int) (D := D) (ci := 11) (C := RX11) (T := TX11) (N := 19) hx hb hts in_X11 tyX11 tyX11_ok nmX11 hown hK hP hD hS 0 rfl rfl 10 (by decide) (hts _ kl_RX11_49) (fun _ h9 => h9) rfl (by decide +kernel) rfl rfl (Nat.le_of_ble_eq_true rfl) dX11_setLimits_2 (fun H locs hP hD hS => ?_)
  have hP : va_P D vwCl ([(mo, .inr (11, [.ref mw, .ref ma, .ref mf, .ref m0, .ref m1, .ref mu, .ref mv, .ref u0, .ref u1, .ref iz, .int 0, .ref mb, .int mn, .int mpt, .int mbg, .int mwr, .int mwk, .int mlf, .int men])), (mw, .inl (ct 0, 958, .inl f))] ++ ws) H := hP
  have hD : va_D A ([(mo, .inr (11, [.ref mw, .ref ma, .ref mf, .ref m0, .ref m1, .ref mu, .ref mv, .ref u0, .ref u1, .ref iz, .int 0, .ref mb, .int mn, .int mpt, .int mbg, .int mwr, .int mwk, .int mlf, .int men])), (mw, .inl (ct 0, 958, .inl f))] ++ ws) := hD
  refine lv_aload_n hx hb dX11_setLimits_5 rfl (lv_at hl 0 rfl) ?_
  refine lv_iload_n hx hb dX11_setLimits_6 rfl (lv_at hl 1 rfl) ?_
  refine lv_i2l hx hb dX11_setLimits_7 rfl ?_
  refine lv_lconst (v := 0) hx hb dX11_setLimits_8 (by decide) ?_
  refine lv_ldc2 hx hb hown (hts _ kl_RX11_338) dX11_setLimits_9 ?_
  refine ty_ki (wr := [(mo, .inr (11, [.ref mw, .ref ma, .ref mf, .ref m0, .ref m1, .ref mu, .ref mv, .ref u0, .ref u1, .ref iz, .int 0, .ref mb, .int mn, .int mpt, .int mbg, .int mwr, .int mwk, .int mlf, .int men])), (mw, .inl (ct 0, 958, .inl f))]) (wc := ([] ++ ws)) (va_runS (As := [.long p1.toInt64, .long 0, .long 5000]) (rest := [.ref mo]) ⟨hx, hb, hml, hown, hts⟩ (m_X11_in l D ct S ws p1.toInt64 (0 : Int64) (5000 : Int64) _ hT) (cm_S 3 hts kc_X11_in ki_RX11 kl_RX11_70 ks_X11_in kd_X11_in ⟨Nat.le_of_ble_eq_true rfl, Nat.le_of_ble_eq_true rfl⟩) (ty_preS (wr := [(mo, .inr (11, [.ref mw, .ref ma, .ref mf, .ref m0, .ref m1, .ref mu, .ref mv, .ref u0, .ref u1, .ref iz, .int 0, .ref mb, .int mn, .int mpt, .int mbg, .int mwr, .int mwk, .int mlf, .int men])), (mw, .inl (ct 0, 958, .inl f))]) (wc := ([] ++ ws)) hP hK hD hS hA hX) rfl rfl hl.1 rfl (lv_room (Nat.le_of_ble_eq_true rfl)) dX11_setLimits_12 ⟨Nat.le_of_ble_eq_true rfl, Nat.le_of_ble_eq_true rfl⟩) hP hD hS hA (fun r_1 u H locs hw_2 hP hD hS => ?_)
  obtain ⟨ws_3, rfl⟩ : ∃ z, z = u := ⟨_, rfl⟩
  obtain ⟨hT, rfl⟩ := hw_2
  have hP : va_P D vwCl ([(mo, .inr (11, [.ref mw, .ref ma, .ref mf, .ref m0, .ref m1, .ref mu, .ref mv, .ref u0, .ref u1, .ref iz, .int 0, .ref mb, .int mn, .int mpt, .int mbg, .int mwr, .int mwk, .int mlf, .int men])), (mw, .inl (ct 0, 958, .inl f))] ++ ws_3) H := hP
  have hD : va_D A ([(mo, .inr (11, [.ref mw, .ref ma, .ref mf, .ref m0, .ref m1, .ref mu, .ref mv, .ref u0, .ref u1, .ref iz, .int 0, .ref mb, .int mn, .int mpt, .int mbg, .int mwr, .int mwk, .int mlf, .int men])), (mw, .inl (ct 0, 958, .inl f))] ++ ws_3) := hD
  refine lv_if_eq (tgt := 31) hx hb dX11_setLimits_15 (by decide) (fun hc_4 => ?_) (fun hc_4 => ?_)
  · refine lv_iconst (v := 1) hx hb dX11_setLimits_31 (by decide) ?_
    refine lv_goto (tgt := 36) hx hb dX11_setLimits_32 (by decide) ?_
    refine lv_iconst (v := 1) hx hb dX11_setLimits_36 (by decide) ?_
    have hP : va_P D vwCl ([(mw, .inl (ct 0, 958, .inl f)), (mo, .inr (11, [.ref mw, .ref ma, .ref mf, .ref m0, .ref m1, .ref mu, .ref mv, .ref u0, .ref u1, .ref iz, .int 0, .ref mb, .int mn, .int mpt, .int mbg, .int mwr, .int mwk, .int mlf, .int men]))] ++ ws_3) H := ty_permP hP (ty_ordp (E := [(mo, .inr (11, [.ref mw, .ref ma, .ref mf, .ref m0, .ref m1, .ref mu, .ref mv, .ref u0, .ref u1, .ref iz, .int 0, .ref mb, .int mn, .int mpt, .int mbg, .int mwr, .int mwk, .int mlf, .int men])), (mw, .inl (ct 0, 958, .inl f))]) (E2 := [(mw, .inl (ct 0, 958, .inl f)), (mo, .inr (11, [.ref mw, .ref ma, .ref mf, .ref m0, .ref m1, .ref mu, .ref mv, .ref u0, .ref u1, .ref iz, .int 0, .ref mb, .int mn, .int mpt, .int mbg, .int mwr, .int mwk, .int mlf, .int men]))]) (n := 2) [1, 0] rfl rfl (by decide))
    have hD : va_D A ([(mw, .inl (ct 0, 958, .inl f)), (mo, .inr (11, [.ref mw, .ref ma, .ref mf, .ref m0, .ref m1, .ref mu, .ref mv, .ref u0, .ref u1, .ref iz, .int 0, .ref mb, .int mn, .int mpt, .int mbg, .int mwr, .int mwk, .int mlf, .int men]))] ++ ws_3) := ty_permD hD (ty_ordp (E := [(mo, .inr (11, [.ref mw, .ref ma, .ref mf, .ref m0, .ref m1, .ref mu, .ref mv, .ref u0, .ref u1, .ref iz, .int 0, .ref mb, .int mn, .int mpt, .int mbg, .int mwr, .int mwk, .int mlf, .int men])), (mw, .inl (ct 0, 958, .inl f))]) (E2 := [(mw, .inl (ct 0, 958, .inl f)), (mo, .inr (11, [.ref mw, .ref ma, .ref mf, .ref m0, .ref m1, .ref mu, .ref mv, .ref u0, .ref u1, .ref iz, .int 0, .ref mb, .int mn, .int mpt, .int mbg, .int mwr, .int mwk, .int mlf, .int men]))]) (n := 2) [1, 0] rfl rfl (by decide))
    refine ty_ki (wr := [(mw, .inl (ct 0, 958, .inl f))]) (wc := ([(mo, .inr (11, [.ref mw, .ref ma, .ref mf, .ref m0, .ref m1, .ref mu, .ref mv, .ref u0, .ref u1, .ref iz, .int 0, .ref mb, .int mn, .int mpt, .int mbg, .int mwr, .int mwk, .int mlf, .int men]))] ++ ws_3)) (va_runV (As := [.int 1, .int 1]) (rest := []) ⟨hx, hb, hml, hown, hts⟩ (m_X11_throwsIf l D ct S ws_3 mo mw ma mf m0 m1 mu mv u0 u1 iz mb (0 : Int32) mn mpt mbg mwr mwk mlf men (1 : Int32) (1 : Int32) _ hT h_mu h_mv h_u0 h_u1 (by decide)) (cm_V 2 hts kc_X11_throwsIf ki_RX11 kl_RX11_328 kv_X11_throwsIf kx_X11_throwsIf kd_X11_throwsIf ⟨Nat.le_of_ble_eq_true rfl, Nat.le_of_ble_eq_true rfl⟩) (ty_preE (wr := [(mw, .inl (ct 0, 958, .inl f))]) (wc := ([(mo, .inr (11, [.ref mw, .ref ma, .ref mf, .ref m0, .ref m1, .ref mu, .ref mv, .ref u0, .ref u1, .ref iz, .int 0, .ref mb, .int mn, .int mpt, .int mbg, .int mwr, .int mwk, .int mlf, .int men]))] ++ ws_3)) (ci := 11) (q0 := 1) hP hK hD hS hA hX rfl rfl) rfl rfl hl.1 rfl (lv_room (Nat.le_of_ble_eq_true rfl)) dX11_setLimits_37 ⟨Nat.le_of_ble_eq_true rfl, Nat.le_of_ble_eq_true rfl⟩) hP hD hS hA (fun r_5 u H locs hw_6 hP hD hS => ?_)
    obtain ⟨ws_7, th1_8⟩ := u
    obtain ⟨hT, hp_9⟩ := hw_6
    have hp_9 : ((r_5 = 0 ∧ (1 : Int32) = 0) ∨ r_5 = 1) := hp_9
    have hP : va_P D vwCl ([(mw, .inl (ct 0, 958, .inl f)), (mo, .inr (11, [.ref mw, .ref ma, .ref mf, .ref m0, .ref m1, .ref mu, .ref mv, .ref u0, .ref u1, .ref iz, .int th1_8, .ref mb, .int mn, .int mpt, .int mbg, .int mwr, .int mwk, .int mlf, .int men]))] ++ ws_7) H := hP
    have hD : va_D A ([(mw, .inl (ct 0, 958, .inl f)), (mo, .inr (11, [.ref mw, .ref ma, .ref mf, .ref m0, .ref m1, .ref mu, .ref mv, .ref u0, .ref u1, .ref iz, .int th1_8, .ref mb, .int mn, .int mpt, .int mbg, .int mwr, .int mwk, .int mlf, .int men]))] ++ ws_7) := hD
    rcases hp_9 with ⟨rfl, hz_10⟩ | rfl
    · exact absurd hz_10 (by decide)
    · refine lv_if_eq (tgt := 45) hx hb dX11_setLimits_40 (by decide) (fun hc => absurd hc (by decide)) (fun _ => ?_)
      refine lv_iconst (v := 0) hx hb dX11_setLimits_43 (by decide) ?_
      have hP : va_P D vwCl ([(mo, .inr (11, [.ref mw, .ref ma, .ref mf, .ref m0, .ref m1, .ref mu, .ref mv, .ref u0, .ref u1, .ref iz, .int th1_8, .ref mb, .int mn, .int mpt, .int mbg, .int mwr, .int mwk, .int mlf, .int men])), (mw, .inl (ct 0, 958, .inl f))] ++ ws_7) H := ty_permP hP (ty_ordp (E := [(mw, .inl (ct 0, 958, .inl f)), (mo, .inr (11, [.ref mw, .ref ma, .ref mf, .ref m0, .ref m1, .ref mu, .ref mv, .ref u0, .ref u1, .ref iz, .int th1_8, .ref mb, .int mn, .int mpt, .int mbg, .int mwr, .int mwk, .int mlf, .int men]))]) (E2 := [(mo, .inr (11, [.ref mw, .ref ma, .ref mf, .ref m0, .ref m1, .ref mu, .ref mv, .ref u0, .ref u1, .ref iz, .int th1_8, .ref mb, .int mn, .int mpt, .int mbg, .int mwr, .int mwk, .int mlf, .int men])), (mw, .inl (ct 0, 958, .inl f))]) (n := 2) [1, 0] rfl rfl (by decide))
      have hD : va_D A ([(mo, .inr (11, [.ref mw, .ref ma, .ref mf, .ref m0, .ref m1, .ref mu, .ref mv, .ref u0, .ref u1, .ref iz, .int th1_8, .ref mb, .int mn, .int mpt, .int mbg, .int mwr, .int mwk, .int mlf, .int men])), (mw, .inl (ct 0, 958, .inl f))] ++ ws_7) := ty_permD hD (ty_ordp (E := [(mw, .inl (ct 0, 958, .inl f)), (mo, .inr (11, [.ref mw, .ref ma, .ref mf, .ref m0, .ref m1, .ref mu, .ref mv, .ref u0, .ref u1, .ref iz, .int th1_8, .ref mb, .int mn, .int mpt, .int mbg, .int mwr, .int mwk, .int mlf, .int men]))]) (E2 := [(mo, .inr (11, [.ref mw, .ref ma, .ref mf, .ref m0, .ref m1, .ref mu, .ref mv, .ref u0, .ref u1, .ref iz, .int th1_8, .ref mb, .int mn, .int mpt, .int mbg, .int mwr, .int mwk, .int mlf, .int men])), (mw, .inl (ct 0, 958, .inl f))]) (n := 2) [1, 0] rfl rfl (by decide))
      exact W.iret (v := 0) hx hb hr (fun t ht hW => ⟨⟨0, (ws_7, th1_8, f), rfl, ⟨hT, ⟨hR, (rf_smr f)⟩⟩, by rw [ht]; exact hP, by rw [hAe]; exact hD⟩, hS.F ht⟩) hS.2.2 dX11_setLimits_44
  · refine lv_iload_n hx hb dX11_setLimits_18 rfl (lv_at hl 2 rfl) ?_
    refine lv_i2l hx hb dX11_setLimits_19 rfl ?_
    refine lv_iload_n hx hb dX11_setLimits_20 rfl (lv_at hl 1 rfl) ?_
    refine lv_i2l hx hb dX11_setLimits_21 rfl ?_
    refine lv_ldc2 hx hb hown (hts _ kl_RX11_338) dX11_setLimits_22 ?_
    refine ty_ki (wr := [(mo, .inr (11, [.ref mw, .ref ma, .ref mf, .ref m0, .ref m1, .ref mu, .ref mv, .ref u0, .ref u1, .ref iz, .int 0, .ref mb, .int mn, .int mpt, .int mbg, .int mwr, .int mwk, .int mlf, .int men])), (mw, .inl (ct 0, 958, .inl f))]) (wc := ([] ++ ws_3)) (va_runS (As := [.long p2.toInt64, .long p1.toInt64, .long 5000]) (rest := [.ref mo]) ⟨hx, hb, hml, hown, hts⟩ (m_X11_in l D ct S ws_3 p2.toInt64 p1.toInt64 (5000 : Int64) _ hT) (cm_S 3 hts kc_X11_in ki_RX11 kl_RX11_70 ks_X11_in kd_X11_in ⟨Nat.le_of_ble_eq_true rfl, Nat.le_of_ble_eq_true rfl⟩) (ty_preS (wr := [(mo, .inr (11, [.ref mw, .ref ma, .ref mf, .ref m0, .ref m1, .ref mu, .ref mv, .ref u0, .ref u1, .ref iz, .int 0, .ref mb, .int mn, .int mpt, .int mbg, .int mwr, .int mwk, .int mlf, .int men])), (mw, .inl (ct 0, 958, .inl f))]) (wc := ([] ++ ws_3)) hP hK hD hS hA hX) rfl rfl hl.1 rfl (lv_room (Nat.le_of_ble_eq_true rfl)) dX11_setLimits_25 ⟨Nat.le_of_ble_eq_true rfl, Nat.le_of_ble_eq_true rfl⟩) hP hD hS hA (fun r_11 u H locs hw_12 hP hD hS => ?_)
    obtain ⟨ws_13, rfl⟩ : ∃ z, z = u := ⟨_, rfl⟩
    obtain ⟨hT, rfl⟩ := hw_12
    have hP : va_P D vwCl ([(mo, .inr (11, [.ref mw, .ref ma, .ref mf, .ref m0, .ref m1, .ref mu, .ref mv, .ref u0, .ref u1, .ref iz, .int 0, .ref mb, .int mn, .int mpt, .int mbg, .int mwr, .int mwk, .int mlf, .int men])), (mw, .inl (ct 0, 958, .inl f))] ++ ws_13) H := hP
    have hD : va_D A ([(mo, .inr (11, [.ref mw, .ref ma, .ref mf, .ref m0, .ref m1, .ref mu, .ref mv, .ref u0, .ref u1, .ref iz, .int 0, .ref mb, .int mn, .int mpt, .int mbg, .int mwr, .int mwk, .int mlf, .int men])), (mw, .inl (ct 0, 958, .inl f))] ++ ws_13) := hD
    refine lv_if_ne (tgt := 35) hx hb dX11_setLimits_28 (by decide) (fun hc_14 => ?_) (fun hc_14 => ?_)
    · refine lv_iconst (v := 0) hx hb dX11_setLimits_35 (by decide) ?_
      refine lv_iconst (v := 1) hx hb dX11_setLimits_36 (by decide) ?_
      have hP : va_P D vwCl ([(mw, .inl (ct 0, 958, .inl f)), (mo, .inr (11, [.ref mw, .ref ma, .ref mf, .ref m0, .ref m1, .ref mu, .ref mv, .ref u0, .ref u1, .ref iz, .int 0, .ref mb, .int mn, .int mpt, .int mbg, .int mwr, .int mwk, .int mlf, .int men]))] ++ ws_13) H := ty_permP hP (ty_ordp (E := [(mo, .inr (11, [.ref mw, .ref ma, .ref mf, .ref m0, .ref m1, .ref mu, .ref mv, .ref u0, .ref u1, .ref iz, .int 0, .ref mb, .int mn, .int mpt, .int mbg, .int mwr, .int mwk, .int mlf, .int men])), (mw, .inl (ct 0, 958, .inl f))]) (E2 := [(mw, .inl (ct 0, 958, .inl f)), (mo, .inr (11, [.ref mw, .ref ma, .ref mf, .ref m0, .ref m1, .ref mu, .ref mv, .ref u0, .ref u1, .ref iz, .int 0, .ref mb, .int mn, .int mpt, .int mbg, .int mwr, .int mwk, .int mlf, .int men]))]) (n := 2) [1, 0] rfl rfl (by decide))
      have hD : va_D A ([(mw, .inl (ct 0, 958, .inl f)), (mo, .inr (11, [.ref mw, .ref ma, .ref mf, .ref m0, .ref m1, .ref mu, .ref mv, .ref u0, .ref u1, .ref iz, .int 0, .ref mb, .int mn, .int mpt, .int mbg, .int mwr, .int mwk, .int mlf, .int men]))] ++ ws_13) := ty_permD hD (ty_ordp (E := [(mo, .inr (11, [.ref mw, .ref ma, .ref mf, .ref m0, .ref m1, .ref mu, .ref mv, .ref u0, .ref u1, .ref iz, .int 0, .ref mb, .int mn, .int mpt, .int mbg, .int mwr, .int mwk, .int mlf, .int men])), (mw, .inl (ct 0, 958, .inl f))]) (E2 := [(mw, .inl (ct 0, 958, .inl f)), (mo, .inr (11, [.ref mw, .ref ma, .ref mf, .ref m0, .ref m1, .ref mu, .ref mv, .ref u0, .ref u1, .ref iz, .int 0, .ref mb, .int mn, .int mpt, .int mbg, .int mwr, .int mwk, .int mlf, .int men]))]) (n := 2) [1, 0] rfl rfl (by decide))
      refine ty_ki (wr := [(mw, .inl (ct 0, 958, .inl f))]) (wc := ([(mo, .inr (11, [.ref mw, .ref ma, .ref mf, .ref m0, .ref m1, .ref mu, .ref mv, .ref u0, .ref u1, .ref iz, .int 0, .ref mb, .int mn, .int mpt, .int mbg, .int mwr, .int mwk, .int mlf, .int men]))] ++ ws_13)) (va_runV (As := [.int 0, .int 1]) (rest := []) ⟨hx, hb, hml, hown, hts⟩ (m_X11_throwsIf l D ct S ws_13 mo mw ma mf m0 m1 mu mv u0 u1 iz mb (0 : Int32) mn mpt mbg mwr mwk mlf men (0 : Int32) (1 : Int32) _ hT h_mu h_mv h_u0 h_u1 (by decide)) (cm_V 2 hts kc_X11_throwsIf ki_RX11 kl_RX11_328 kv_X11_throwsIf kx_X11_throwsIf kd_X11_throwsIf ⟨Nat.le_of_ble_eq_true rfl, Nat.le_of_ble_eq_true rfl⟩) (ty_preE (wr := [(mw, .inl (ct 0, 958, .inl f))]) (wc := ([(mo, .inr (11, [.ref mw, .ref ma, .ref mf, .ref m0, .ref m1, .ref mu, .ref mv, .ref u0, .ref u1, .ref iz, .int 0, .ref mb, .int mn, .int mpt, .int mbg, .int mwr, .int mwk, .int mlf, .int men]))] ++ ws_13)) (ci := 11) (q0 := 1) hP hK hD hS hA hX rfl rfl) rfl rfl hl.1 rfl (lv_room (Nat.le_of_ble_eq_true rfl)) dX11_setLimits_37 ⟨Nat.le_of_ble_eq_true rfl, Nat.le_of_ble_eq_true rfl⟩) hP hD hS hA (fun r_15 u H locs hw_16 hP hD hS => ?_)
      obtain ⟨ws_17, th1_18⟩ := u
      obtain ⟨hT, hp_19⟩ := hw_16
      have hp_19 : ((r_15 = 0 ∧ (0 : Int32) = 0) ∨ r_15 = 1) := hp_19
      have hP : va_P D vwCl ([(mw, .inl (ct 0, 958, .inl f)), (mo, .inr (11, [.ref mw, .ref ma, .ref mf, .ref m0, .ref m1, .ref mu, .ref mv, .ref u0, .ref u1, .ref iz, .int th1_18, .ref mb, .int mn, .int mpt, .int mbg, .int mwr, .int mwk, .int mlf, .int men]))] ++ ws_17) H := hP
      have hD : va_D A ([(mw, .inl (ct 0, 958, .inl f)), (mo, .inr (11, [.ref mw, .ref ma, .ref mf, .ref m0, .ref m1, .ref mu, .ref mv, .ref u0, .ref u1, .ref iz, .int th1_18, .ref mb, .int mn, .int mpt, .int mbg, .int mwr, .int mwk, .int mlf, .int men]))] ++ ws_17) := hD
      rcases hp_19 with ⟨rfl, hz_20⟩ | rfl
      · refine lv_if_eq (tgt := 45) hx hb dX11_setLimits_40 (by decide) (fun _ => ?_) (fun hc => absurd (by decide) hc)
        refine lv_aload_n hx hb dX11_setLimits_45 rfl (lv_at hl 0 rfl) ?_
        refine va_get (v := .ref mw) (D := D) (ci := 11) (C := RX11) (T := TX11) (N := 19) hx hb hts in_X11 hown hK hP 1 rfl rfl 0 (by decide) (hts _ kl_RX11_9) (fun _ h9 => h9) rfl dX11_setLimits_46 ?_
        refine lv_iconst (v := 4) hx hb dX11_setLimits_49 (by decide) ?_
        refine lv_iload_n hx hb dX11_setLimits_50 rfl (lv_at hl 1 rfl) ?_
        refine va_iast hx hb hK hP hD hS 0 0 rfl rfl (cm_vin (by decide)) dX11_setLimits_51 (fun H locs hP hD hS => ?_)
        have hP : va_P D vwCl ([(mw, .inl (ct 0, 958, .inl (upd f (4 : Int32).toNatClampNeg p1))), (mo, .inr (11, [.ref mw, .ref ma, .ref mf, .ref m0, .ref m1, .ref mu, .ref mv, .ref u0, .ref u1, .ref iz, .int th1_18, .ref mb, .int mn, .int mpt, .int mbg, .int mwr, .int mwk, .int mlf, .int men]))] ++ ws_17) H := hP
        have hD : va_D A ([(mw, .inl (ct 0, 958, .inl (upd f (4 : Int32).toNatClampNeg p1))), (mo, .inr (11, [.ref mw, .ref ma, .ref mf, .ref m0, .ref m1, .ref mu, .ref mv, .ref u0, .ref u1, .ref iz, .int th1_18, .ref mb, .int mn, .int mpt, .int mbg, .int mwr, .int mwk, .int mlf, .int men]))] ++ ws_17) := hD
        have hU_22 : rf_R G cx (upd f (4 : Int32).toNatClampNeg p1) ∧ rf_sm f (upd f (4 : Int32).toNatClampNeg p1) := (rf_free _ hR (Or.inl (by decide)))
        generalize hf_25 : (upd f (4 : Int32).toNatClampNeg p1) = f_21 at hP hD hU_22
        have hR_23 := hU_22.1
        have hM_24 := rf_smt (rf_smr f) hU_22.2
        refine lv_aload_n hx hb dX11_setLimits_52 rfl (lv_at hl 0 rfl) ?_
        refine va_get (v := .ref mw) (D := D) (ci := 11) (C := RX11) (T := TX11) (N := 19) hx hb hts in_X11 hown hK hP 1 rfl rfl 0 (by decide) (hts _ kl_RX11_9) (fun _ h9 => h9) rfl dX11_setLimits_53 ?_
        refine lv_iconst (v := 5) hx hb dX11_setLimits_56 (by decide) ?_
        refine lv_iload_n hx hb dX11_setLimits_57 rfl (lv_at hl 2 rfl) ?_
        refine va_iast hx hb hK hP hD hS 0 0 rfl rfl (cm_vin (by decide)) dX11_setLimits_58 (fun H locs hP hD hS => ?_)
        have hP : va_P D vwCl ([(mw, .inl (ct 0, 958, .inl (upd f_21 (5 : Int32).toNatClampNeg p2))), (mo, .inr (11, [.ref mw, .ref ma, .ref mf, .ref m0, .ref m1, .ref mu, .ref mv, .ref u0, .ref u1, .ref iz, .int th1_18, .ref mb, .int mn, .int mpt, .int mbg, .int mwr, .int mwk, .int mlf, .int men]))] ++ ws_17) H := hP
        have hD : va_D A ([(mw, .inl (ct 0, 958, .inl (upd f_21 (5 : Int32).toNatClampNeg p2))), (mo, .inr (11, [.ref mw, .ref ma, .ref mf, .ref m0, .ref m1, .ref mu, .ref mv, .ref u0, .ref u1, .ref iz, .int th1_18, .ref mb, .int mn, .int mpt, .int mbg, .int mwr, .int mwk, .int mlf, .int men]))] ++ ws_17) := hD
        have hU_27 : rf_R G cx (upd f_21 (5 : Int32).toNatClampNeg p2) ∧ rf_sm f_21 (upd f_21 (5 : Int32).toNatClampNeg p2) := (rf_free _ hR_23 (Or.inl (by decide)))
        generalize hf_30 : (upd f_21 (5 : Int32).toNatClampNeg p2) = f_26 at hP hD hU_27
        have hR_28 := hU_27.1
        have hM_29 := rf_smt hM_24 hU_27.2
        refine lv_iconst (v := 0) hx hb dX11_setLimits_59 (by decide) ?_
        refine lv_istore_n (lv' := [(3, .int 0), (0, .ref mo), (1, .int p1), (2, .int p2)]) hx hb dX11_setLimits_60 rfl hl (by decide) rfl (fun ls hl => ?_)
        refine lv_iconst (v := 0) hx hb dX11_setLimits_61 (by decide) ?_
        refine lv_istore (lv' := [(4, .int 0), (3, .int 0), (0, .ref mo), (1, .int p1), (2, .int p2)]) hx hb dX11_setLimits_62 hl (by decide) rfl (fun ls hl => ?_)
        refine ty_loop (I := fun μ H locs ls => ∃ (ws : va_W) (y_31 : Int32) (y_32 : Int32), μ = (2147483648 - y_32.toInt).toNat ∧ ty_W ct S ws ∧ va_P D vwCl ([(mw, .inl (ct 0, 958, .inl f_26)), (mo, .inr (11, [.ref mw, .ref ma, .ref mf, .ref m0, .ref m1, .ref mu, .ref mv, .ref u0, .ref u1, .ref iz, .int th1_18, .ref mb, .int mn, .int mpt, .int mbg, .int mwr, .int mwk, .int mlf, .int men]))] ++ ws) H ∧ va_D A ([(mw, .inl (ct 0, 958, .inl f_26)), (mo, .inr (11, [.ref mw, .ref ma, .ref mf, .ref m0, .ref m1, .ref mu, .ref mv, .ref u0, .ref u1, .ref iz, .int th1_18, .ref mb, .int mn, .int mpt, .int mbg, .int mwr, .int mwk, .int mlf, .int men]))] ++ ws) ∧ va_S A s.heap H locs ∧ lv_has ls 5 [(0, .ref mo), (1, .int p1), (2, .int p2), (3, .int y_31), (4, .int y_32)] ∧ 0 ≤ y_32.toInt) ⟨_, ws_17, (0 : Int32), (0 : Int32), rfl, hT, hP, hD, hS, (lv_sub hl [2, 3, 4, 1, 0] rfl), (by decide)⟩ (fun μ H locs ls hI ih_64 => ?_)
        obtain ⟨ws, y_31, y_32, rfl, hT, hP, hD, hS, hl, hex_64⟩ := hI
        refine lv_iload hx hb dX11_setLimits_64 (lv_at hl 4 rfl) ?_
        refine lv_aload_n hx hb dX11_setLimits_66 rfl (lv_at hl 0 rfl) ?_
        refine va_get (v := .ref mw) (D := D) (ci := 11) (C := RX11) (T := TX11) (N := 19) hx hb hts in_X11 hown hK hP 1 rfl rfl 0 (by decide) (hts _ kl_RX11_9) (fun _ h9 => h9) rfl dX11_setLimits_67 ?_
        refine lv_bipush (v := 9) hx hb dX11_setLimits_70 (by decide) ?_
        refine va_iald hx hb hK hP 0 0 rfl rfl (cm_vin (by decide)) dX11_setLimits_72 ?_
        refine cm_cst (y := (f_26 9)) (by first | rfl | decide +kernel) ?_
        refine lv_icmp_ge (tgt := 119) hx hb dX11_setLimits_73 (by decide) (fun hc_33 => ?_) (fun hc_33 => ?_)
        · refine lv_iload_n hx hb dX11_setLimits_119 rfl (lv_at hl 3 rfl) ?_
          have hP : va_P D vwCl ([(mo, .inr (11, [.ref mw, .ref ma, .ref mf, .ref m0, .ref m1, .ref mu, .ref mv, .ref u0, .ref u1, .ref iz, .int th1_18, .ref mb, .int mn, .int mpt, .int mbg, .int mwr, .int mwk, .int mlf, .int men])), (mw, .inl (ct 0, 958, .inl f_26))] ++ ws) H := ty_permP hP (ty_ordp (E := [(mw, .inl (ct 0, 958, .inl f_26)), (mo, .inr (11, [.ref mw, .ref ma, .ref mf, .ref m0, .ref m1, .ref mu, .ref mv, .ref u0, .ref u1, .ref iz, .int th1_18, .ref mb, .int mn, .int mpt, .int mbg, .int mwr, .int mwk, .int mlf, .int men]))]) (E2 := [(mo, .inr (11, [.ref mw, .ref ma, .ref mf, .ref m0, .ref m1, .ref mu, .ref mv, .ref u0, .ref u1, .ref iz, .int th1_18, .ref mb, .int mn, .int mpt, .int mbg, .int mwr, .int mwk, .int mlf, .int men])), (mw, .inl (ct 0, 958, .inl f_26))]) (n := 2) [1, 0] rfl rfl (by decide))
          have hD : va_D A ([(mo, .inr (11, [.ref mw, .ref ma, .ref mf, .ref m0, .ref m1, .ref mu, .ref mv, .ref u0, .ref u1, .ref iz, .int th1_18, .ref mb, .int mn, .int mpt, .int mbg, .int mwr, .int mwk, .int mlf, .int men])), (mw, .inl (ct 0, 958, .inl f_26))] ++ ws) := ty_permD hD (ty_ordp (E := [(mw, .inl (ct 0, 958, .inl f_26)), (mo, .inr (11, [.ref mw, .ref ma, .ref mf, .ref m0, .ref m1, .ref mu, .ref mv, .ref u0, .ref u1, .ref iz, .int th1_18, .ref mb, .int mn, .int mpt, .int mbg, .int mwr, .int mwk, .int mlf, .int men]))]) (E2 := [(mo, .inr (11, [.ref mw, .ref ma, .ref mf, .ref m0, .ref m1, .ref mu, .ref mv, .ref u0, .ref u1, .ref iz, .int th1_18, .ref mb, .int mn, .int mpt, .int mbg, .int mwr, .int mwk, .int mlf, .int men])), (mw, .inl (ct 0, 958, .inl f_26))]) (n := 2) [1, 0] rfl rfl (by decide))
          exact W.iret (v := y_31) hx hb hr (fun t ht hW => ⟨⟨y_31, (ws, th1_18, f_26), rfl, ⟨hT, ⟨hR_28, hM_29⟩⟩, by rw [ht]; exact hP, by rw [hAe]; exact hD⟩, hS.F ht⟩) hS.2.2 dX11_setLimits_120
        · refine lv_iload_n hx hb dX11_setLimits_76 rfl (lv_at hl 3 rfl) ?_
          refine lv_aload_n hx hb dX11_setLimits_77 rfl (lv_at hl 0 rfl) ?_
          refine lv_iload hx hb dX11_setLimits_78 (lv_at hl 4 rfl) ?_
          refine lv_iconst (v := 0) hx hb dX11_setLimits_80 (by decide) ?_
          have hP : va_P D vwCl ([(mo, .inr (11, [.ref mw, .ref ma, .ref mf, .ref m0, .ref m1, .ref mu, .ref mv, .ref u0, .ref u1, .ref iz, .int th1_18, .ref mb, .int mn, .int mpt, .int mbg, .int mwr, .int mwk, .int mlf, .int men])), (mw, .inl (ct 0, 958, .inl f_26))] ++ ws) H := ty_permP hP (ty_ordp (E := [(mw, .inl (ct 0, 958, .inl f_26)), (mo, .inr (11, [.ref mw, .ref ma, .ref mf, .ref m0, .ref m1, .ref mu, .ref mv, .ref u0, .ref u1, .ref iz, .int th1_18, .ref mb, .int mn, .int mpt, .int mbg, .int mwr, .int mwk, .int mlf, .int men]))]) (E2 := [(mo, .inr (11, [.ref mw, .ref ma, .ref mf, .ref m0, .ref m1, .ref mu, .ref mv, .ref u0, .ref u1, .ref iz, .int th1_18, .ref mb, .int mn, .int mpt, .int mbg, .int mwr, .int mwk, .int mlf, .int men])), (mw, .inl (ct 0, 958, .inl f_26))]) (n := 2) [1, 0] rfl rfl (by decide))
          have hD : va_D A ([(mo, .inr (11, [.ref mw, .ref ma, .ref mf, .ref m0, .ref m1, .ref mu, .ref mv, .ref u0, .ref u1, .ref iz, .int th1_18, .ref mb, .int mn, .int mpt, .int mbg, .int mwr, .int mwk, .int mlf, .int men])), (mw, .inl (ct 0, 958, .inl f_26))] ++ ws) := ty_permD hD (ty_ordp (E := [(mw, .inl (ct 0, 958, .inl f_26)), (mo, .inr (11, [.ref mw, .ref ma, .ref mf, .ref m0, .ref m1, .ref mu, .ref mv, .ref u0, .ref u1, .ref iz, .int th1_18, .ref mb, .int mn, .int mpt, .int mbg, .int mwr, .int mwk, .int mlf, .int men]))]) (E2 := [(mo, .inr (11, [.ref mw, .ref ma, .ref mf, .ref m0, .ref m1, .ref mu, .ref mv, .ref u0, .ref u1, .ref iz, .int th1_18, .ref mb, .int mn, .int mpt, .int mbg, .int mwr, .int mwk, .int mlf, .int men])), (mw, .inl (ct 0, 958, .inl f_26))]) (n := 2) [1, 0] rfl rfl (by decide))
          refine ty_ki (wr := []) (wc := ([(mo, .inr (11, [.ref mw, .ref ma, .ref mf, .ref m0, .ref m1, .ref mu, .ref mv, .ref u0, .ref u1, .ref iz, .int th1_18, .ref mb, .int mn, .int mpt, .int mbg, .int mwr, .int mwk, .int mlf, .int men])), (mw, .inl (ct 0, 958, .inl f_26))] ++ ws)) (va_runV (As := [.int y_32, .int 0]) (rest := [.int y_31]) ⟨hx, hb, hml, hown, hts⟩ (m_of_0 l D ct S ws mo mw ma mf m0 m1 mu mv u0 u1 iz mb th1_18 mn mpt mbg mwr mwk mlf men f_26 G cx y_32 _ hT h_mu h_mv h_u0 h_u1 hR_28 ⟨hex_64, by rw [← hR_28.2.1.2.2.2.2.1]; exact rf_ylt rfl hc_33⟩) (cm_V 2 hts kc_X11_of ki_RX11 kl_RX11_209 kv_X11_of kx_X11_of kd_X11_of ⟨Nat.le_of_ble_eq_true rfl, Nat.le_of_ble_eq_true rfl⟩) (ty_preE (wr := []) (wc := ([(mo, .inr (11, [.ref mw, .ref ma, .ref mf, .ref m0, .ref m1, .ref mu, .ref mv, .ref u0, .ref u1, .ref iz, .int th1_18, .ref mb, .int mn, .int mpt, .int mbg, .int mwr, .int mwk, .int mlf, .int men])), (mw, .inl (ct 0, 958, .inl f_26))] ++ ws)) (ci := 11) (q0 := 0) hP hK hD hS hA hX rfl rfl) rfl rfl hl.1 rfl (lv_room (Nat.le_of_ble_eq_true rfl)) dX11_setLimits_81 ⟨Nat.le_of_ble_eq_true rfl, Nat.le_of_ble_eq_true rfl⟩) hP hD hS hA (fun r_34 u H locs hw_35 hP hD hS => ?_)
          obtain ⟨ws_36, rfl⟩ : ∃ z, z = u := ⟨_, rfl⟩
          obtain ⟨hT, rfl⟩ := hw_35
          have hP : va_P D vwCl ([(mo, .inr (11, [.ref mw, .ref ma, .ref mf, .ref m0, .ref m1, .ref mu, .ref mv, .ref u0, .ref u1, .ref iz, .int th1_18, .ref mb, .int mn, .int mpt, .int mbg, .int mwr, .int mwk, .int mlf, .int men])), (mw, .inl (ct 0, 958, .inl f_26))] ++ ws_36) H := hP
          have hD : va_D A ([(mo, .inr (11, [.ref mw, .ref ma, .ref mf, .ref m0, .ref m1, .ref mu, .ref mv, .ref u0, .ref u1, .ref iz, .int th1_18, .ref mb, .int mn, .int mpt, .int mbg, .int mwr, .int mwk, .int mlf, .int men])), (mw, .inl (ct 0, 958, .inl f_26))] ++ ws_36) := hD
          refine lv_iconst (v := 1) hx hb dX11_setLimits_84 (by decide) ?_
          refine lv_icmp_ne (tgt := 110) hx hb dX11_setLimits_85 (by decide) (fun hc_37 => ?_) (fun hc_37 => ?_)
          · refine lv_iconst (v := 0) hx hb dX11_setLimits_110 (by decide) ?_
            refine lv_iadd hx hb dX11_setLimits_111 ?_
            refine lv_topi (fun x_38 _ => ?_)
            refine lv_istore_n (lv' := [(3, .int x_38), (0, .ref mo), (1, .int p1), (2, .int p2), (4, .int y_32)]) hx hb dX11_setLimits_112 rfl hl (by decide) rfl (fun ls hl => ?_)
            refine lv_iinc (v := (y_32 + Int32.ofInt 1)) (lv' := [(4, .int (y_32 + Int32.ofInt 1)), (3, .int x_38), (0, .ref mo), (1, .int p1), (2, .int p2)]) hx hb dX11_setLimits_113 hl (k := 4) rfl rfl (by decide) rfl (fun ls hl => ?_)
            refine lv_goto (tgt := 64) hx hb dX11_setLimits_116 (by decide) ?_
            have hP : va_P D vwCl ([(mw, .inl (ct 0, 958, .inl f_26)), (mo, .inr (11, [.ref mw, .ref ma, .ref mf, .ref m0, .ref m1, .ref mu, .ref mv, .ref u0, .ref u1, .ref iz, .int th1_18, .ref mb, .int mn, .int mpt, .int mbg, .int mwr, .int mwk, .int mlf, .int men]))] ++ ws_36) H := ty_permP hP (ty_ordp (E := [(mo, .inr (11, [.ref mw, .ref ma, .ref mf, .ref m0, .ref m1, .ref mu, .ref mv, .ref u0, .ref u1, .ref iz, .int th1_18, .ref mb, .int mn, .int mpt, .int mbg, .int mwr, .int mwk, .int mlf, .int men])), (mw, .inl (ct 0, 958, .inl f_26))]) (E2 := [(mw, .inl (ct 0, 958, .inl f_26)), (mo, .inr (11, [.ref mw, .ref ma, .ref mf, .ref m0, .ref m1, .ref mu, .ref mv, .ref u0, .ref u1, .ref iz, .int th1_18, .ref mb, .int mn, .int mpt, .int mbg, .int mwr, .int mwk, .int mlf, .int men]))]) (n := 2) [1, 0] rfl rfl (by decide))
            have hD : va_D A ([(mw, .inl (ct 0, 958, .inl f_26)), (mo, .inr (11, [.ref mw, .ref ma, .ref mf, .ref m0, .ref m1, .ref mu, .ref mv, .ref u0, .ref u1, .ref iz, .int th1_18, .ref mb, .int mn, .int mpt, .int mbg, .int mwr, .int mwk, .int mlf, .int men]))] ++ ws_36) := ty_permD hD (ty_ordp (E := [(mo, .inr (11, [.ref mw, .ref ma, .ref mf, .ref m0, .ref m1, .ref mu, .ref mv, .ref u0, .ref u1, .ref iz, .int th1_18, .ref mb, .int mn, .int mpt, .int mbg, .int mwr, .int mwk, .int mlf, .int men])), (mw, .inl (ct 0, 958, .inl f_26))]) (E2 := [(mw, .inl (ct 0, 958, .inl f_26)), (mo, .inr (11, [.ref mw, .ref ma, .ref mf, .ref m0, .ref m1, .ref mu, .ref mv, .ref u0, .ref u1, .ref iz, .int th1_18, .ref mb, .int mn, .int mpt, .int mbg, .int mwr, .int mwk, .int mlf, .int men]))]) (n := 2) [1, 0] rfl rfl (by decide))
            exact ih_64 _ _ _ _ (ty_inc (cm_lt hc_33)) ⟨ws_36, x_38, (y_32 + Int32.ofInt 1), rfl, hT, hP, hD, hS, (lv_sub hl [2, 3, 4, 1, 0] rfl), (ty_nn hex_64 (cm_lt hc_33))⟩
          · refine lv_aload_n hx hb dX11_setLimits_88 rfl (lv_at hl 0 rfl) ?_
            refine lv_iload hx hb dX11_setLimits_89 (lv_at hl 4 rfl) ?_
            refine lv_iconst (v := 5) hx hb dX11_setLimits_91 (by decide) ?_
            refine ty_ki (wr := []) (wc := ([(mo, .inr (11, [.ref mw, .ref ma, .ref mf, .ref m0, .ref m1, .ref mu, .ref mv, .ref u0, .ref u1, .ref iz, .int th1_18, .ref mb, .int mn, .int mpt, .int mbg, .int mwr, .int mwk, .int mlf, .int men])), (mw, .inl (ct 0, 958, .inl f_26))] ++ ws_36)) (va_runV (As := [.int y_32, .int 5]) (rest := [.int y_31]) ⟨hx, hb, hml, hown, hts⟩ (m_of_5 l D ct S ws_36 mo mw ma mf m0 m1 mu mv u0 u1 iz mb th1_18 mn mpt mbg mwr mwk mlf men f_26 G cx y_32 _ hT h_mu h_mv h_u0 h_u1 hR_28 ⟨hex_64, by rw [← hR_28.2.1.2.2.2.2.1]; exact rf_ylt rfl hc_33⟩) (cm_V 2 hts kc_X11_of ki_RX11 kl_RX11_209 kv_X11_of kx_X11_of kd_X11_of ⟨Nat.le_of_ble_eq_true rfl, Nat.le_of_ble_eq_true rfl⟩) (ty_preE (wr := []) (wc := ([(mo, .inr (11, [.ref mw, .ref ma, .ref mf, .ref m0, .ref m1, .ref mu, .ref mv, .ref u0, .ref u1, .ref iz, .int th1_18, .ref mb, .int mn, .int mpt, .int mbg, .int mwr, .int mwk, .int mlf, .int men])), (mw, .inl (ct 0, 958, .inl f_26))] ++ ws_36)) (ci := 11) (q0 := 0) hP hK hD hS hA hX rfl rfl) rfl rfl hl.1 rfl (lv_room (Nat.le_of_ble_eq_true rfl)) dX11_setLimits_92 ⟨Nat.le_of_ble_eq_true rfl, Nat.le_of_ble_eq_true rfl⟩) hP hD hS hA (fun r_39 u H locs hw_40 hP hD hS => ?_)
            obtain ⟨ws_41, rfl⟩ : ∃ z, z = u := ⟨_, rfl⟩
            obtain ⟨hT, rfl⟩ := hw_40
            have hP : va_P D vwCl ([(mo, .inr (11, [.ref mw, .ref ma, .ref mf, .ref m0, .ref m1, .ref mu, .ref mv, .ref u0, .ref u1, .ref iz, .int th1_18, .ref mb, .int mn, .int mpt, .int mbg, .int mwr, .int mwk, .int mlf, .int men])), (mw, .inl (ct 0, 958, .inl f_26))] ++ ws_41) H := hP
            have hD : va_D A ([(mo, .inr (11, [.ref mw, .ref ma, .ref mf, .ref m0, .ref m1, .ref mu, .ref mv, .ref u0, .ref u1, .ref iz, .int th1_18, .ref mb, .int mn, .int mpt, .int mbg, .int mwr, .int mwk, .int mlf, .int men])), (mw, .inl (ct 0, 958, .inl f_26))] ++ ws_41) := hD
            refine lv_i2l hx hb dX11_setLimits_95 rfl ?_
            refine lv_topl (fun x_42 _ => ?_)
            refine lv_iload_n hx hb dX11_setLimits_96 rfl (lv_at hl 1 rfl) ?_
            refine lv_i2l hx hb dX11_setLimits_97 rfl ?_
            refine lv_topl (fun x_43 _ => ?_)
            refine lv_iload_n hx hb dX11_setLimits_98 rfl (lv_at hl 2 rfl) ?_
            refine lv_i2l hx hb dX11_setLimits_99 rfl ?_
            refine lv_topl (fun x_44 _ => ?_)
            refine ty_ki (wr := [(mo, .inr (11, [.ref mw, .ref ma, .ref mf, .ref m0, .ref m1, .ref mu, .ref mv, .ref u0, .ref u1, .ref iz, .int th1_18, .ref mb, .int mn, .int mpt, .int mbg, .int mwr, .int mwk, .int mlf, .int men])), (mw, .inl (ct 0, 958, .inl f_26))]) (wc := ([] ++ ws_41)) (va_runS (As := [.long x_42, .long x_43, .long x_44]) (rest := [.int y_31]) ⟨hx, hb, hml, hown, hts⟩ (m_X11_in l D ct S ws_41 x_42 x_43 x_44 _ hT) (cm_S 3 hts kc_X11_in ki_RX11 kl_RX11_70 ks_X11_in kd_X11_in ⟨Nat.le_of_ble_eq_true rfl, Nat.le_of_ble_eq_true rfl⟩) (ty_preS (wr := [(mo, .inr (11, [.ref mw, .ref ma, .ref mf, .ref m0, .ref m1, .ref mu, .ref mv, .ref u0, .ref u1, .ref iz, .int th1_18, .ref mb, .int mn, .int mpt, .int mbg, .int mwr, .int mwk, .int mlf, .int men])), (mw, .inl (ct 0, 958, .inl f_26))]) (wc := ([] ++ ws_41)) hP hK hD hS hA hX) rfl rfl hl.1 rfl (lv_room (Nat.le_of_ble_eq_true rfl)) dX11_setLimits_100 ⟨Nat.le_of_ble_eq_true rfl, Nat.le_of_ble_eq_true rfl⟩) hP hD hS hA (fun r_45 u H locs hw_46 hP hD hS => ?_)
            obtain ⟨ws_47, rfl⟩ : ∃ z, z = u := ⟨_, rfl⟩
            obtain ⟨hT, rfl⟩ := hw_46
            have hP : va_P D vwCl ([(mo, .inr (11, [.ref mw, .ref ma, .ref mf, .ref m0, .ref m1, .ref mu, .ref mv, .ref u0, .ref u1, .ref iz, .int th1_18, .ref mb, .int mn, .int mpt, .int mbg, .int mwr, .int mwk, .int mlf, .int men])), (mw, .inl (ct 0, 958, .inl f_26))] ++ ws_47) H := hP
            have hD : va_D A ([(mo, .inr (11, [.ref mw, .ref ma, .ref mf, .ref m0, .ref m1, .ref mu, .ref mv, .ref u0, .ref u1, .ref iz, .int th1_18, .ref mb, .int mn, .int mpt, .int mbg, .int mwr, .int mwk, .int mlf, .int men])), (mw, .inl (ct 0, 958, .inl f_26))] ++ ws_47) := hD
            refine lv_if_ne (tgt := 110) hx hb dX11_setLimits_103 (by decide) (fun hc_48 => ?_) (fun hc_48 => ?_)
            · refine lv_iconst (v := 0) hx hb dX11_setLimits_110 (by decide) ?_
              refine lv_iadd hx hb dX11_setLimits_111 ?_
              refine lv_topi (fun x_49 _ => ?_)
              refine lv_istore_n (lv' := [(3, .int x_49), (0, .ref mo), (1, .int p1), (2, .int p2), (4, .int y_32)]) hx hb dX11_setLimits_112 rfl hl (by decide) rfl (fun ls hl => ?_)
              refine lv_iinc (v := (y_32 + Int32.ofInt 1)) (lv' := [(4, .int (y_32 + Int32.ofInt 1)), (3, .int x_49), (0, .ref mo), (1, .int p1), (2, .int p2)]) hx hb dX11_setLimits_113 hl (k := 4) rfl rfl (by decide) rfl (fun ls hl => ?_)
              refine lv_goto (tgt := 64) hx hb dX11_setLimits_116 (by decide) ?_
              have hP : va_P D vwCl ([(mw, .inl (ct 0, 958, .inl f_26)), (mo, .inr (11, [.ref mw, .ref ma, .ref mf, .ref m0, .ref m1, .ref mu, .ref mv, .ref u0, .ref u1, .ref iz, .int th1_18, .ref mb, .int mn, .int mpt, .int mbg, .int mwr, .int mwk, .int mlf, .int men]))] ++ ws_47) H := ty_permP hP (ty_ordp (E := [(mo, .inr (11, [.ref mw, .ref ma, .ref mf, .ref m0, .ref m1, .ref mu, .ref mv, .ref u0, .ref u1, .ref iz, .int th1_18, .ref mb, .int mn, .int mpt, .int mbg, .int mwr, .int mwk, .int mlf, .int men])), (mw, .inl (ct 0, 958, .inl f_26))]) (E2 := [(mw, .inl (ct 0, 958, .inl f_26)), (mo, .inr (11, [.ref mw, .ref ma, .ref mf, .ref m0, .ref m1, .ref mu, .ref mv, .ref u0, .ref u1, .ref iz, .int th1_18, .ref mb, .int mn, .int mpt, .int mbg, .int mwr, .int mwk, .int mlf, .int men]))]) (n := 2) [1, 0] rfl rfl (by decide))
              have hD : va_D A ([(mw, .inl (ct 0, 958, .inl f_26)), (mo, .inr (11, [.ref mw, .ref ma, .ref mf, .ref m0, .ref m1, .ref mu, .ref mv, .ref u0, .ref u1, .ref iz, .int th1_18, .ref mb, .int mn, .int mpt, .int mbg, .int mwr, .int mwk, .int mlf, .int men]))] ++ ws_47) := ty_permD hD (ty_ordp (E := [(mo, .inr (11, [.ref mw, .ref ma, .ref mf, .ref m0, .ref m1, .ref mu, .ref mv, .ref u0, .ref u1, .ref iz, .int th1_18, .ref mb, .int mn, .int mpt, .int mbg, .int mwr, .int mwk, .int mlf, .int men])), (mw, .inl (ct 0, 958, .inl f_26))]) (E2 := [(mw, .inl (ct 0, 958, .inl f_26)), (mo, .inr (11, [.ref mw, .ref ma, .ref mf, .ref m0, .ref m1, .ref mu, .ref mv, .ref u0, .ref u1, .ref iz, .int th1_18, .ref mb, .int mn, .int mpt, .int mbg, .int mwr, .int mwk, .int mlf, .int men]))]) (n := 2) [1, 0] rfl rfl (by decide))
              exact ih_64 _ _ _ _ (ty_inc (cm_lt hc_33)) ⟨ws_47, x_49, (y_32 + Int32.ofInt 1), rfl, hT, hP, hD, hS, (lv_sub hl [2, 3, 4, 1, 0] rfl), (ty_nn hex_64 (cm_lt hc_33))⟩
            · refine lv_iconst (v := 1) hx hb dX11_setLimits_106 (by decide) ?_
              refine lv_goto (tgt := 111) hx hb dX11_setLimits_107 (by decide) ?_
              refine lv_iadd hx hb dX11_setLimits_111 ?_
              refine lv_topi (fun x_50 _ => ?_)
              refine lv_istore_n (lv' := [(3, .int x_50), (0, .ref mo), (1, .int p1), (2, .int p2), (4, .int y_32)]) hx hb dX11_setLimits_112 rfl hl (by decide) rfl (fun ls hl => ?_)
              refine lv_iinc (v := (y_32 + Int32.ofInt 1)) (lv' := [(4, .int (y_32 + Int32.ofInt 1)), (3, .int x_50), (0, .ref mo), (1, .int p1), (2, .int p2)]) hx hb dX11_setLimits_113 hl (k := 4) rfl rfl (by decide) rfl (fun ls hl => ?_)
              refine lv_goto (tgt := 64) hx hb dX11_setLimits_116 (by decide) ?_
              have hP : va_P D vwCl ([(mw, .inl (ct 0, 958, .inl f_26)), (mo, .inr (11, [.ref mw, .ref ma, .ref mf, .ref m0, .ref m1, .ref mu, .ref mv, .ref u0, .ref u1, .ref iz, .int th1_18, .ref mb, .int mn, .int mpt, .int mbg, .int mwr, .int mwk, .int mlf, .int men]))] ++ ws_47) H := ty_permP hP (ty_ordp (E := [(mo, .inr (11, [.ref mw, .ref ma, .ref mf, .ref m0, .ref m1, .ref mu, .ref mv, .ref u0, .ref u1, .ref iz, .int th1_18, .ref mb, .int mn, .int mpt, .int mbg, .int mwr, .int mwk, .int mlf, .int men])), (mw, .inl (ct 0, 958, .inl f_26))]) (E2 := [(mw, .inl (ct 0, 958, .inl f_26)), (mo, .inr (11, [.ref mw, .ref ma, .ref mf, .ref m0, .ref m1, .ref mu, .ref mv, .ref u0, .ref u1, .ref iz, .int th1_18, .ref mb, .int mn, .int mpt, .int mbg, .int mwr, .int mwk, .int mlf, .int men]))]) (n := 2) [1, 0] rfl rfl (by decide))
              have hD : va_D A ([(mw, .inl (ct 0, 958, .inl f_26)), (mo, .inr (11, [.ref mw, .ref ma, .ref mf, .ref m0, .ref m1, .ref mu, .ref mv, .ref u0, .ref u1, .ref iz, .int th1_18, .ref mb, .int mn, .int mpt, .int mbg, .int mwr, .int mwk, .int mlf, .int men]))] ++ ws_47) := ty_permD hD (ty_ordp (E := [(mo, .inr (11, [.ref mw, .ref ma, .ref mf, .ref m0, .ref m1, .ref mu, .ref mv, .ref u0, .ref u1, .ref iz, .int th1_18, .ref mb, .int mn, .int mpt, .int mbg, .int mwr, .int mwk, .int mlf, .int men])), (mw, .inl (ct 0, 958, .inl f_26))]) (E2 := [(mw, .inl (ct 0, 958, .inl f_26)), (mo, .inr (11, [.ref mw, .ref ma, .ref mf, .ref m0, .ref m1, .ref mu, .ref mv, .ref u0, .ref u1, .ref iz, .int th1_18, .ref mb, .int mn, .int mpt, .int mbg, .int mwr, .int mwk, .int mlf, .int men]))]) (n := 2) [1, 0] rfl rfl (by decide))
              exact ih_64 _ _ _ _ (ty_inc (cm_lt hc_33)) ⟨ws_47, x_50, (y_32 + Int32.ofInt 1), rfl, hT, hP, hD, hS, (lv_sub hl [2, 3, 4, 1, 0] rfl), (ty_nn hex_64 (cm_lt hc_33))⟩
      · refine lv_if_eq (tgt := 45) hx hb dX11_setLimits_40 (by decide) (fun hc => absurd hc (by decide)) (fun _ => ?_)
        refine lv_iconst (v := 0) hx hb dX11_setLimits_43 (by decide) ?_
        have hP : va_P D vwCl ([(mo, .inr (11, [.ref mw, .ref ma, .ref mf, .ref m0, .ref m1, .ref mu, .ref mv, .ref u0, .ref u1, .ref iz, .int th1_18, .ref mb, .int mn, .int mpt, .int mbg, .int mwr, .int mwk, .int mlf, .int men])), (mw, .inl (ct 0, 958, .inl f))] ++ ws_17) H := ty_permP hP (ty_ordp (E := [(mw, .inl (ct 0, 958, .inl f)), (mo, .inr (11, [.ref mw, .ref ma, .ref mf, .ref m0, .ref m1, .ref mu, .ref mv, .ref u0, .ref u1, .ref iz, .int th1_18, .ref mb, .int mn, .int mpt, .int mbg, .int mwr, .int mwk, .int mlf, .int men]))]) (E2 := [(mo, .inr (11, [.ref mw, .ref ma, .ref mf, .ref m0, .ref m1, .ref mu, .ref mv, .ref u0, .ref u1, .ref iz, .int th1_18, .ref mb, .int mn, .int mpt, .int mbg, .int mwr, .int mwk, .int mlf, .int men])), (mw, .inl (ct 0, 958, .inl f))]) (n := 2) [1, 0] rfl rfl (by decide))
        have hD : va_D A ([(mo, .inr (11, [.ref mw, .ref ma, .ref mf, .ref m0, .ref m1, .ref mu, .ref mv, .ref u0, .ref u1, .ref iz, .int th1_18, .ref mb, .int mn, .int mpt, .int mbg, .int mwr, .int mwk, .int mlf, .int men])), (mw, .inl (ct 0, 958, .inl f))] ++ ws_17) := ty_permD hD (ty_ordp (E := [(mw, .inl (ct 0, 958, .inl f)), (mo, .inr (11, [.ref mw, .ref ma, .ref mf, .ref m0, .ref m1, .ref mu, .ref mv, .ref u0, .ref u1, .ref iz, .int th1_18, .ref mb, .int mn, .int mpt, .int mbg, .int mwr, .int mwk, .int mlf, .int men]))]) (E2 := [(mo, .inr (11, [.ref mw, .ref ma, .ref mf, .ref m0, .ref m1, .ref mu, .ref mv, .ref u0, .ref u1, .ref iz, .int th1_18, .ref mb, .int mn, .int mpt, .int mbg, .int mwr, .int mwk, .int mlf, .int men])), (mw, .inl (ct 0, 958, .inl f))]) (n := 2) [1, 0] rfl rfl (by decide))
        exact W.iret (v := 0) hx hb hr (fun t ht hW => ⟨⟨0, (ws_17, th1_18, f), rfl, ⟨hT, ⟨hR, (rf_smr f)⟩⟩, by rw [ht]; exact hP, by rw [hAe]; exact hD⟩, hS.F ht⟩) hS.2.2 dX11_setLimits_44
    · refine lv_iconst (v := 1) hx hb dX11_setLimits_31 (by decide) ?_
      refine lv_goto (tgt := 36) hx hb dX11_setLimits_32 (by decide) ?_
      refine lv_iconst (v := 1) hx hb dX11_setLimits_36 (by decide) ?_
      have hP : va_P D vwCl ([(mw, .inl (ct 0, 958, .inl f)), (mo, .inr (11, [.ref mw, .ref ma, .ref mf, .ref m0, .ref m1, .ref mu, .ref mv, .ref u0, .ref u1, .ref iz, .int 0, .ref mb, .int mn, .int mpt, .int mbg, .int mwr, .int mwk, .int mlf, .int men]))] ++ ws_13) H := ty_permP hP (ty_ordp (E := [(mo, .inr (11, [.ref mw, .ref ma, .ref mf, .ref m0, .ref m1, .ref mu, .ref mv, .ref u0, .ref u1, .ref iz, .int 0, .ref mb, .int mn, .int mpt, .int mbg, .int mwr, .int mwk, .int mlf, .int men])), (mw, .inl (ct 0, 958, .inl f))]) (E2 := [(mw, .inl (ct 0, 958, .inl f)), (mo, .inr (11, [.ref mw, .ref ma, .ref mf, .ref m0, .ref m1, .ref mu, .ref mv, .ref u0, .ref u1, .ref iz, .int 0, .ref mb, .int mn, .int mpt, .int mbg, .int mwr, .int mwk, .int mlf, .int men]))]) (n := 2) [1, 0] rfl rfl (by decide))
      have hD : va_D A ([(mw, .inl (ct 0, 958, .inl f)), (mo, .inr (11, [.ref mw, .ref ma, .ref mf, .ref m0, .ref m1, .ref mu, .ref mv, .ref u0, .ref u1, .ref iz, .int 0, .ref mb, .int mn, .int mpt, .int mbg, .int mwr, .int mwk, .int mlf, .int men]))] ++ ws_13) := ty_permD hD (ty_ordp (E := [(mo, .inr (11, [.ref mw, .ref ma, .ref mf, .ref m0, .ref m1, .ref mu, .ref mv, .ref u0, .ref u1, .ref iz, .int 0, .ref mb, .int mn, .int mpt, .int mbg, .int mwr, .int mwk, .int mlf, .int men])), (mw, .inl (ct 0, 958, .inl f))]) (E2 := [(mw, .inl (ct 0, 958, .inl f)), (mo, .inr (11, [.ref mw, .ref ma, .ref mf, .ref m0, .ref m1, .ref mu, .ref mv, .ref u0, .ref u1, .ref iz, .int 0, .ref mb, .int mn, .int mpt, .int mbg, .int mwr, .int mwk, .int mlf, .int men]))]) (n := 2) [1, 0] rfl rfl (by decide))
      refine ty_ki (wr := [(mw, .inl (ct 0, 958, .inl f))]) (wc := ([(mo, .inr (11, [.ref mw, .ref ma, .ref mf, .ref m0, .ref m1, .ref mu, .ref mv, .ref u0, .ref u1, .ref iz, .int 0, .ref mb, .int mn, .int mpt, .int mbg, .int mwr, .int mwk, .int mlf, .int men]))] ++ ws_13)) (va_runV (As := [.int 1, .int 1]) (rest := []) ⟨hx, hb, hml, hown, hts⟩ (m_X11_throwsIf l D ct S ws_13 mo mw ma mf m0 m1 mu mv u0 u1 iz mb (0 : Int32) mn mpt mbg mwr mwk mlf men (1 : Int32) (1 : Int32) _ hT h_mu h_mv h_u0 h_u1 (by decide)) (cm_V 2 hts kc_X11_throwsIf ki_RX11 kl_RX11_328 kv_X11_throwsIf kx_X11_throwsIf kd_X11_throwsIf ⟨Nat.le_of_ble_eq_true rfl, Nat.le_of_ble_eq_true rfl⟩) (ty_preE (wr := [(mw, .inl (ct 0, 958, .inl f))]) (wc := ([(mo, .inr (11, [.ref mw, .ref ma, .ref mf, .ref m0, .ref m1, .ref mu, .ref mv, .ref u0, .ref u1, .ref iz, .int 0, .ref mb, .int mn, .int mpt, .int mbg, .int mwr, .int mwk, .int mlf, .int men]))] ++ ws_13)) (ci := 11) (q0 := 1) hP hK hD hS hA hX rfl rfl) rfl rfl hl.1 rfl (lv_room (Nat.le_of_ble_eq_true rfl)) dX11_setLimits_37 ⟨Nat.le_of_ble_eq_true rfl, Nat.le_of_ble_eq_true rfl⟩) hP hD hS hA (fun r_51 u H locs hw_52 hP hD hS => ?_)
      obtain ⟨ws_53, th1_54⟩ := u
      obtain ⟨hT, hp_55⟩ := hw_52
      have hp_55 : ((r_51 = 0 ∧ (1 : Int32) = 0) ∨ r_51 = 1) := hp_55
      have hP : va_P D vwCl ([(mw, .inl (ct 0, 958, .inl f)), (mo, .inr (11, [.ref mw, .ref ma, .ref mf, .ref m0, .ref m1, .ref mu, .ref mv, .ref u0, .ref u1, .ref iz, .int th1_54, .ref mb, .int mn, .int mpt, .int mbg, .int mwr, .int mwk, .int mlf, .int men]))] ++ ws_53) H := hP
      have hD : va_D A ([(mw, .inl (ct 0, 958, .inl f)), (mo, .inr (11, [.ref mw, .ref ma, .ref mf, .ref m0, .ref m1, .ref mu, .ref mv, .ref u0, .ref u1, .ref iz, .int th1_54, .ref mb, .int mn, .int mpt, .int mbg, .int mwr, .int mwk, .int mlf, .int men]))] ++ ws_53) := hD
      rcases hp_55 with ⟨rfl, hz_56⟩ | rfl
      · exact absurd hz_56 (by decide)
      · refine lv_if_eq (tgt := 45) hx hb dX11_setLimits_40 (by decide) (fun hc => absurd hc (by decide)) (fun _ => ?_)
        refine lv_iconst (v := 0) hx hb dX11_setLimits_43 (by decide) ?_
        have hP : va_P D vwCl ([(mo, .inr (11, [.ref mw, .ref ma, .ref mf, .ref m0, .ref m1, .ref mu, .ref mv, .ref u0, .ref u1, .ref iz, .int th1_54, .ref mb, .int mn, .int mpt, .int mbg, .int mwr, .int mwk, .int mlf, .int men])), (mw, .inl (ct 0, 958, .inl f))] ++ ws_53) H := ty_permP hP (ty_ordp (E := [(mw, .inl (ct 0, 958, .inl f)), (mo, .inr (11, [.ref mw, .ref ma, .ref mf, .ref m0, .ref m1, .ref mu, .ref mv, .ref u0, .ref u1, .ref iz, .int th1_54, .ref mb, .int mn, .int mpt, .int mbg, .int mwr, .int mwk, .int mlf, .int men]))]) (E2 := [(mo, .inr (11, [.ref mw, .ref ma, .ref mf, .ref m0, .ref m1, .ref mu, .ref mv, .ref u0, .ref u1, .ref iz, .int th1_54, .ref mb, .int mn, .int mpt, .int mbg, .int mwr, .int mwk, .int mlf, .int men])), (mw, .inl (ct 0, 958, .inl f))]) (n := 2) [1, 0] rfl rfl (by decide))
        have hD : va_D A ([(mo, .inr (11, [.ref mw, .ref ma, .ref mf, .ref m0, .ref m1, .ref mu, .ref mv, .ref u0, .ref u1, .ref iz, .int th1_54, .ref mb, .int mn, .int mpt, .int mbg, .int mwr, .int mwk, .int mlf, .int men])), (mw, .inl (ct 0, 958, .inl f))] ++ ws_53) := ty_permD hD (ty_ordp (E := [(mw, .inl (ct 0, 958, .inl f)), (mo, .inr (11, [.ref mw, .ref ma, .ref mf, .ref m0, .ref m1, .ref mu, .ref mv, .ref u0, .ref u1, .ref iz, .int th1_54, .ref mb, .int mn, .int mpt, .int mbg, .int mwr, .int mwk, .int mlf, .int men]))]) (E2 := [(mo, .inr (11, [.ref mw, .ref ma, .ref mf, .ref m0, .ref m1, .ref mu, .ref mv, .ref u0, .ref u1, .ref iz, .int th1_54, .ref mb, .int mn, .int mpt, .int mbg, .int mwr, .int mwk, .int mlf, .int men])), (mw, .inl (ct 0, 958, .inl f))]) (n := 2) [1, 0] rfl rfl (by decide))
        exact W.iret (v := 0) hx hb hr (fun t ht hW => ⟨⟨0, (ws_53, th1_54, f), rfl, ⟨hT, ⟨hR, (rf_smr f)⟩⟩, by rw [ht]; exact hP, by rw [hAe]; exact hD⟩, hS.F ht⟩) hS.2.2 dX11_setLimits_44
theorem dX11_stepValue_0 : decode cX11_stepValue 0 = .ok (.aload_n 0, 1) := by decide +kernel
theorem dX11_stepValue_1 : decode cX11_stepValue 1 = .ok (.iconst 0, 1) := by decide +kernel
theorem dX11_stepValue_2 : decode cX11_stepValue 2 = .ok (.putfield 49, 3) := by decide +kernel
theorem dX11_stepValue_5 : decode cX11_stepValue 5 = .ok (.aload_n 0, 1) := by decide +kernel
theorem dX11_stepValue_6 : decode cX11_stepValue 6 = .ok (.iload_n 1, 1) := by decide +kernel
theorem dX11_stepValue_7 : decode cX11_stepValue 7 = .ok (.i2l, 1) := by decide +kernel
theorem dX11_stepValue_8 : decode cX11_stepValue 8 = .ok (.lconst 0, 1) := by decide +kernel
theorem dX11_stepValue_9 : decode cX11_stepValue 9 = .ok (.aload_n 0, 1) := by decide +kernel
theorem dX11_stepValue_10 : decode cX11_stepValue 10 = .ok (.getfield 9, 3) := by decide +kernel
theorem dX11_stepValue_13 : decode cX11_stepValue 13 = .ok (.bipush 10, 2) := by decide +kernel
theorem dX11_stepValue_15 : decode cX11_stepValue 15 = .ok (.iaload, 1) := by decide +kernel
theorem dX11_stepValue_16 : decode cX11_stepValue 16 = .ok (.iconst 1, 1) := by decide +kernel
theorem dX11_stepValue_17 : decode cX11_stepValue 17 = .ok (.isub, 1) := by decide +kernel
theorem dX11_stepValue_18 : decode cX11_stepValue 18 = .ok (.i2l, 1) := by decide +kernel
theorem dX11_stepValue_19 : decode cX11_stepValue 19 = .ok (.invokestatic 70, 3) := by decide +kernel
theorem dX11_stepValue_22 : decode cX11_stepValue 22 = .ok (.ifCond .ne 7, 3) := by decide +kernel
theorem dX11_stepValue_25 : decode cX11_stepValue 25 = .ok (.iconst 1, 1) := by decide +kernel
theorem dX11_stepValue_26 : decode cX11_stepValue 26 = .ok (.goto 4, 3) := by decide +kernel
theorem dX11_stepValue_29 : decode cX11_stepValue 29 = .ok (.iconst 0, 1) := by decide +kernel
theorem dX11_stepValue_30 : decode cX11_stepValue 30 = .ok (.iconst 1, 1) := by decide +kernel
theorem dX11_stepValue_31 : decode cX11_stepValue 31 = .ok (.invokevirtual 328, 3) := by decide +kernel
theorem dX11_stepValue_34 : decode cX11_stepValue 34 = .ok (.ifCond .ne 28, 3) := by decide +kernel
theorem dX11_stepValue_37 : decode cX11_stepValue 37 = .ok (.aload_n 0, 1) := by decide +kernel
theorem dX11_stepValue_38 : decode cX11_stepValue 38 = .ok (.iload_n 3, 1) := by decide +kernel
theorem dX11_stepValue_39 : decode cX11_stepValue 39 = .ok (.i2l, 1) := by decide +kernel
theorem dX11_stepValue_40 : decode cX11_stepValue 40 = .ok (.lconst 0, 1) := by decide +kernel
theorem dX11_stepValue_41 : decode cX11_stepValue 41 = .ok (.ldc2_w 326, 3) := by decide +kernel
theorem dX11_stepValue_44 : decode cX11_stepValue 44 = .ok (.invokestatic 70, 3) := by decide +kernel
theorem dX11_stepValue_47 : decode cX11_stepValue 47 = .ok (.ifCond .ne 7, 3) := by decide +kernel
theorem dX11_stepValue_50 : decode cX11_stepValue 50 = .ok (.iconst 1, 1) := by decide +kernel
theorem dX11_stepValue_51 : decode cX11_stepValue 51 = .ok (.goto 4, 3) := by decide +kernel
theorem dX11_stepValue_54 : decode cX11_stepValue 54 = .ok (.iconst 0, 1) := by decide +kernel
theorem dX11_stepValue_55 : decode cX11_stepValue 55 = .ok (.iconst 2, 1) := by decide +kernel
theorem dX11_stepValue_56 : decode cX11_stepValue 56 = .ok (.invokevirtual 328, 3) := by decide +kernel
theorem dX11_stepValue_59 : decode cX11_stepValue 59 = .ok (.ifCond .eq 5, 3) := by decide +kernel
theorem dX11_stepValue_62 : decode cX11_stepValue 62 = .ok (.iconst 0, 1) := by decide +kernel
theorem dX11_stepValue_63 : decode cX11_stepValue 63 = .ok (.ireturn, 1) := by decide +kernel
theorem dX11_stepValue_64 : decode cX11_stepValue 64 = .ok (.iload_n 2, 1) := by decide +kernel
theorem dX11_stepValue_65 : decode cX11_stepValue 65 = .ok (.i2l, 1) := by decide +kernel
theorem dX11_stepValue_66 : decode cX11_stepValue 66 = .ok (.lconst 0, 1) := by decide +kernel
theorem dX11_stepValue_67 : decode cX11_stepValue 67 = .ok (.aload_n 0, 1) := by decide +kernel
theorem dX11_stepValue_68 : decode cX11_stepValue 68 = .ok (.iload_n 1, 1) := by decide +kernel
theorem dX11_stepValue_69 : decode cX11_stepValue 69 = .ok (.invokevirtual 276, 3) := by decide +kernel
theorem dX11_stepValue_72 : decode cX11_stepValue 72 = .ok (.iconst 1, 1) := by decide +kernel
theorem dX11_stepValue_73 : decode cX11_stepValue 73 = .ok (.isub, 1) := by decide +kernel
theorem dX11_stepValue_74 : decode cX11_stepValue 74 = .ok (.i2l, 1) := by decide +kernel
theorem dX11_stepValue_75 : decode cX11_stepValue 75 = .ok (.invokestatic 70, 3) := by decide +kernel
theorem dX11_stepValue_78 : decode cX11_stepValue 78 = .ok (.ifCond .eq 13, 3) := by decide +kernel
theorem dX11_stepValue_81 : decode cX11_stepValue 81 = .ok (.aload_n 0, 1) := by decide +kernel
theorem dX11_stepValue_82 : decode cX11_stepValue 82 = .ok (.iload_n 1, 1) := by decide +kernel
theorem dX11_stepValue_83 : decode cX11_stepValue 83 = .ok (.iload_n 2, 1) := by decide +kernel
theorem dX11_stepValue_84 : decode cX11_stepValue 84 = .ok (.iload_n 3, 1) := by decide +kernel
theorem dX11_stepValue_85 : decode cX11_stepValue 85 = .ok (.invokevirtual 218, 3) := by decide +kernel
theorem dX11_stepValue_88 : decode cX11_stepValue 88 = .ok (.goto 4, 3) := by decide +kernel
theorem dX11_stepValue_91 : decode cX11_stepValue 91 = .ok (.iconst (-1), 1) := by decide +kernel
theorem dX11_stepValue_92 : decode cX11_stepValue 92 = .ok (.ireturn, 1) := by decide +kernel
set_option maxRecDepth 100000 in
set_option maxHeartbeats 4000000 in
theorem m_X11_stepValue (l : Launch) (D : va_G) (ct : Nat → ClassId) (S : ty_S) (ws : va_W) (mo : Nat) (mw : Nat) (ma : Nat) (mf : Nat) (m0 : Nat) (m1 : Nat) (mu : Nat) (mv : Nat) (u0 : Nat) (u1 : Nat) (iz : Nat) (mb : Nat) (th : Int32) (mn : Int32) (mpt : Int32) (mbg : Int32) (mwr : Int32) (mwk : Int32) (mlf : Int32) (men : Int32) (f : Nat → Int32) (G : Nat → Int32) (cx : Int) (p1 : Int32) (p2 : Int32) (p3 : Int32) (sz : Nat) (hT : ty_W ct S ws) (h_mu : S mu = some (.inr (1, 42))) (h_mv : S mv = some (.inr (1, 42))) (h_u0 : S u0 = some (.inr (1, 42))) (h_u1 : S u1 = some (.inr (1, 42))) (hR : rf_R G cx f) : Met l yX11_stepValue (ws_ yX11_stepValue cX11_stepValue 4 (some .int)) ({ frames := 1, cells := 0, slots := 0, locals := 25 } : Room) (va_Pc [.ref mo, .int p1, .int p2, .int p3] (cmP D ct sz ([(mo, .inr (11, [.ref mw, .ref ma, .ref mf, .ref m0, .ref m1, .ref mu, .ref mv, .ref u0, .ref u1, .ref iz, .int th, .ref mb, .int mn, .int mpt, .int mbg, .int mwr, .int mwk, .int mlf, .int men])), (mw, .inl (ct 0, 958, .inl f))] ++ ws))) (va_Qi (fun (r : Int32) (u : va_W × Int32) => match u with | (u9, th1) => ty_W ct S u9) (cmB D ([(mo, .inr (11, [.ref mw, .ref ma, .ref mf, .ref m0, .ref m1, .ref mu, .ref mv, .ref u0, .ref u1, .ref iz, .int th, .ref mb, .int mn, .int mpt, .int mbg, .int mwr, .int mwk, .int mlf, .int men])), (mw, .inl (ct 0, 958, .inl f))] ++ ws) sz (fun (u : va_W × Int32) => match u with | (u9, th1) => ([(mo, .inr (11, [.ref mw, .ref ma, .ref mf, .ref m0, .ref m1, .ref mu, .ref mv, .ref u0, .ref u1, .ref iz, .int th1, .ref mb, .int mn, .int mpt, .int mbg, .int mwr, .int mwk, .int mlf, .int men])), (mw, .inl (ct 0, 958, .inl f))] ++ u9))) (va_A ([(mo, .inr (11, [.ref mw, .ref ma, .ref mf, .ref m0, .ref m1, .ref mu, .ref mv, .ref u0, .ref u1, .ref iz, .int th, .ref mb, .int mn, .int mpt, .int mbg, .int mwr, .int mwk, .int mlf, .int men])), (mw, .inl (ct 0, 958, .inl f))] ++ ws) sz)) 0 0 (va_A ([(mo, .inr (11, [.ref mw, .ref ma, .ref mf, .ref m0, .ref m1, .ref mu, .ref mv, .ref u0, .ref u1, .ref iz, .int th, .ref mb, .int mn, .int mpt, .int mbg, .int mwr, .int mwk, .int mlf, .int men])), (mw, .inl (ct 0, 958, .inl f))] ++ ws) sz) := by
  refine Met.ofW (cc := cX11_stepValue) (maxL := 4) (ret := (some .int)) (by decide) rfl ?_
  intro p e s m args below meth c s₁ B hml hv
  obtain ⟨rfl, hsz, hP, hK, hD0, hX⟩ := hv
  have hx := B.exec
  have hb := B.bytes
  have hr := B.returns
  have hts := ws_all (atoms_spec (ws := ws_ yX11_stepValue cX11_stepValue 4 (some .int)) B.pre)
  have hown : s.vm.findClass RX11 = some m.cls := findClass_of_methodNamed B.named
  have hlocks := B.notSynchronized
  subst hsz
  have hD := hD0.self (sz := s.heap.size)
  generalize hAe : va_A ([(mo, .inr (11, [.ref mw, .ref ma, .ref mf, .ref m0, .ref m1, .ref mu, .ref mv, .ref u0, .ref u1, .ref iz, .int th, .ref mb, .int mn, .int mpt, .int mbg, .int mwr, .int mwk, .int mlf, .int men])), (mw, .inl (ct 0, 958, .inl f))] ++ ws) s.heap.size = A at hD hX ⊢
  have hA : ∀ q : Nat, s.heap.size ≤ q → A q := fun q h => by rw [← hAe]; exact Or.inr h
  have hS : va_S A s.heap s.heap [] := va_S.rf
  have hl := lv_entry ([.ref mo, .int p1, .int p2, .int p3]) (n := 4) (Nat.le_of_ble_eq_true rfl)
  rw [lg_entry_eq]
  generalize (lg_sl ([.ref mo, .int p1, .int p2, .int p3]) ++ List.replicate (4 - (lg_sl ([.ref mo, .int p1, .int p2, .int p3])).length) Slot.unset).toArray = ls at hl ⊢
  have hl : lv_has ls 4 [(0, .ref mo), (1, .int p1), (2, .int p2), (3, .int p3)] := hl
  refine lv_aload_n hx hb dX11_stepValue_0 rfl (lv_at hl 0 rfl) ?_
  refine lv_iconst (v := 0) hx hb dX11_stepValue_1 (by decide) ?_
  refine va_put (v := .int 0) (ty := .int) (D := D) (ci := 11) (C := RX11) (T := TX11) (N := 19) hx hb hts in_X11 tyX11 tyX11_ok nmX11 hown hK hP hD hS 0 rfl rfl 10 (by decide) (hts _ kl_RX11_49) (fun _ h9 => h9) rfl (by decide +kernel) rfl rfl (Nat.le_of_ble_eq_true rfl) dX11_stepValue_2 (fun H locs hP hD hS => ?_)
  have hP : va_P D vwCl ([(mo, .inr (11, [.ref mw, .ref ma, .ref mf, .ref m0, .ref m1, .ref mu, .ref mv, .ref u0, .ref u1, .ref iz, .int 0, .ref mb, .int mn, .int mpt, .int mbg, .int mwr, .int mwk, .int mlf, .int men])), (mw, .inl (ct 0, 958, .inl f))] ++ ws) H := hP
  have hD : va_D A ([(mo, .inr (11, [.ref mw, .ref ma, .ref mf, .ref m0, .ref m1, .ref mu, .ref mv, .ref u0, .ref u1, .ref iz, .int 0, .ref mb, .int mn, .int mpt, .int mbg, .int mwr, .int mwk, .int mlf, .int men])), (mw, .inl (ct 0, 958, .inl f))] ++ ws) := hD
  refine lv_aload_n hx hb dX11_stepValue_5 rfl (lv_at hl 0 rfl) ?_
  refine lv_iload_n hx hb dX11_stepValue_6 rfl (lv_at hl 1 rfl) ?_
  refine lv_i2l hx hb dX11_stepValue_7 rfl ?_
  refine lv_lconst (v := 0) hx hb dX11_stepValue_8 (by decide) ?_
  refine lv_aload_n hx hb dX11_stepValue_9 rfl (lv_at hl 0 rfl) ?_
  refine va_get (v := .ref mw) (D := D) (ci := 11) (C := RX11) (T := TX11) (N := 19) hx hb hts in_X11 hown hK hP 0 rfl rfl 0 (by decide) (hts _ kl_RX11_9) (fun _ h9 => h9) rfl dX11_stepValue_10 ?_
  refine lv_bipush (v := 10) hx hb dX11_stepValue_13 (by decide) ?_
  refine va_iald hx hb hK hP 1 0 rfl rfl (cm_vin (by decide)) dX11_stepValue_15 ?_
  refine cm_cst (y := (f 10)) (by first | rfl | decide +kernel) ?_
  refine lv_iconst (v := 1) hx hb dX11_stepValue_16 (by decide) ?_
  refine lv_isub hx hb dX11_stepValue_17 ?_
  refine lv_i2l hx hb dX11_stepValue_18 rfl ?_
  refine ty_ki (wr := [(mo, .inr (11, [.ref mw, .ref ma, .ref mf, .ref m0, .ref m1, .ref mu, .ref mv, .ref u0, .ref u1, .ref iz, .int 0, .ref mb, .int mn, .int mpt, .int mbg, .int mwr, .int mwk, .int mlf, .int men])), (mw, .inl (ct 0, 958, .inl f))]) (wc := ([] ++ ws)) (va_runS (As := [.long p1.toInt64, .long 0, .long (((f 10) - 1).toInt64)]) (rest := [.ref mo]) ⟨hx, hb, hml, hown, hts⟩ (m_X11_in l D ct S ws p1.toInt64 (0 : Int64) (((f 10) - 1).toInt64) _ hT) (cm_S 3 hts kc_X11_in ki_RX11 kl_RX11_70 ks_X11_in kd_X11_in ⟨Nat.le_of_ble_eq_true rfl, Nat.le_of_ble_eq_true rfl⟩) (ty_preS (wr := [(mo, .inr (11, [.ref mw, .ref ma, .ref mf, .ref m0, .ref m1, .ref mu, .ref mv, .ref u0, .ref u1, .ref iz, .int 0, .ref mb, .int mn, .int mpt, .int mbg, .int mwr, .int mwk, .int mlf, .int men])), (mw, .inl (ct 0, 958, .inl f))]) (wc := ([] ++ ws)) hP hK hD hS hA hX) rfl rfl hl.1 rfl (lv_room (Nat.le_of_ble_eq_true rfl)) dX11_stepValue_19 ⟨Nat.le_of_ble_eq_true rfl, Nat.le_of_ble_eq_true rfl⟩) hP hD hS hA (fun r_1 u H locs hw_2 hP hD hS => ?_)
  obtain ⟨ws_3, rfl⟩ : ∃ z, z = u := ⟨_, rfl⟩
  obtain ⟨hT, rfl⟩ := hw_2
  have hP : va_P D vwCl ([(mo, .inr (11, [.ref mw, .ref ma, .ref mf, .ref m0, .ref m1, .ref mu, .ref mv, .ref u0, .ref u1, .ref iz, .int 0, .ref mb, .int mn, .int mpt, .int mbg, .int mwr, .int mwk, .int mlf, .int men])), (mw, .inl (ct 0, 958, .inl f))] ++ ws_3) H := hP
  have hD : va_D A ([(mo, .inr (11, [.ref mw, .ref ma, .ref mf, .ref m0, .ref m1, .ref mu, .ref mv, .ref u0, .ref u1, .ref iz, .int 0, .ref mb, .int mn, .int mpt, .int mbg, .int mwr, .int mwk, .int mlf, .int men])), (mw, .inl (ct 0, 958, .inl f))] ++ ws_3) := hD
  refine lv_if_ne (tgt := 29) hx hb dX11_stepValue_22 (by decide) (fun hc_4 => ?_) (fun hc_4 => ?_)
  · refine lv_iconst (v := 0) hx hb dX11_stepValue_29 (by decide) ?_
    refine lv_iconst (v := 1) hx hb dX11_stepValue_30 (by decide) ?_
    have hP : va_P D vwCl ([(mw, .inl (ct 0, 958, .inl f)), (mo, .inr (11, [.ref mw, .ref ma, .ref mf, .ref m0, .ref m1, .ref mu, .ref mv, .ref u0, .ref u1, .ref iz, .int 0, .ref mb, .int mn, .int mpt, .int mbg, .int mwr, .int mwk, .int mlf, .int men]))] ++ ws_3) H := ty_permP hP (ty_ordp (E := [(mo, .inr (11, [.ref mw, .ref ma, .ref mf, .ref m0, .ref m1, .ref mu, .ref mv, .ref u0, .ref u1, .ref iz, .int 0, .ref mb, .int mn, .int mpt, .int mbg, .int mwr, .int mwk, .int mlf, .int men])), (mw, .inl (ct 0, 958, .inl f))]) (E2 := [(mw, .inl (ct 0, 958, .inl f)), (mo, .inr (11, [.ref mw, .ref ma, .ref mf, .ref m0, .ref m1, .ref mu, .ref mv, .ref u0, .ref u1, .ref iz, .int 0, .ref mb, .int mn, .int mpt, .int mbg, .int mwr, .int mwk, .int mlf, .int men]))]) (n := 2) [1, 0] rfl rfl (by decide))
    have hD : va_D A ([(mw, .inl (ct 0, 958, .inl f)), (mo, .inr (11, [.ref mw, .ref ma, .ref mf, .ref m0, .ref m1, .ref mu, .ref mv, .ref u0, .ref u1, .ref iz, .int 0, .ref mb, .int mn, .int mpt, .int mbg, .int mwr, .int mwk, .int mlf, .int men]))] ++ ws_3) := ty_permD hD (ty_ordp (E := [(mo, .inr (11, [.ref mw, .ref ma, .ref mf, .ref m0, .ref m1, .ref mu, .ref mv, .ref u0, .ref u1, .ref iz, .int 0, .ref mb, .int mn, .int mpt, .int mbg, .int mwr, .int mwk, .int mlf, .int men])), (mw, .inl (ct 0, 958, .inl f))]) (E2 := [(mw, .inl (ct 0, 958, .inl f)), (mo, .inr (11, [.ref mw, .ref ma, .ref mf, .ref m0, .ref m1, .ref mu, .ref mv, .ref u0, .ref u1, .ref iz, .int 0, .ref mb, .int mn, .int mpt, .int mbg, .int mwr, .int mwk, .int mlf, .int men]))]) (n := 2) [1, 0] rfl rfl (by decide))
    refine ty_ki (wr := [(mw, .inl (ct 0, 958, .inl f))]) (wc := ([(mo, .inr (11, [.ref mw, .ref ma, .ref mf, .ref m0, .ref m1, .ref mu, .ref mv, .ref u0, .ref u1, .ref iz, .int 0, .ref mb, .int mn, .int mpt, .int mbg, .int mwr, .int mwk, .int mlf, .int men]))] ++ ws_3)) (va_runV (As := [.int 0, .int 1]) (rest := []) ⟨hx, hb, hml, hown, hts⟩ (m_X11_throwsIf l D ct S ws_3 mo mw ma mf m0 m1 mu mv u0 u1 iz mb (0 : Int32) mn mpt mbg mwr mwk mlf men (0 : Int32) (1 : Int32) _ hT h_mu h_mv h_u0 h_u1 (by decide)) (cm_V 2 hts kc_X11_throwsIf ki_RX11 kl_RX11_328 kv_X11_throwsIf kx_X11_throwsIf kd_X11_throwsIf ⟨Nat.le_of_ble_eq_true rfl, Nat.le_of_ble_eq_true rfl⟩) (ty_preE (wr := [(mw, .inl (ct 0, 958, .inl f))]) (wc := ([(mo, .inr (11, [.ref mw, .ref ma, .ref mf, .ref m0, .ref m1, .ref mu, .ref mv, .ref u0, .ref u1, .ref iz, .int 0, .ref mb, .int mn, .int mpt, .int mbg, .int mwr, .int mwk, .int mlf, .int men]))] ++ ws_3)) (ci := 11) (q0 := 1) hP hK hD hS hA hX rfl rfl) rfl rfl hl.1 rfl (lv_room (Nat.le_of_ble_eq_true rfl)) dX11_stepValue_31 ⟨Nat.le_of_ble_eq_true rfl, Nat.le_of_ble_eq_true rfl⟩) hP hD hS hA (fun r_5 u H locs hw_6 hP hD hS => ?_)
    obtain ⟨ws_7, th1_8⟩ := u
    obtain ⟨hT, hp_9⟩ := hw_6
    have hp_9 : ((r_5 = 0 ∧ (0 : Int32) = 0) ∨ r_5 = 1) := hp_9
    have hP : va_P D vwCl ([(mw, .inl (ct 0, 958, .inl f)), (mo, .inr (11, [.ref mw, .ref ma, .ref mf, .ref m0, .ref m1, .ref mu, .ref mv, .ref u0, .ref u1, .ref iz, .int th1_8, .ref mb, .int mn, .int mpt, .int mbg, .int mwr, .int mwk, .int mlf, .int men]))] ++ ws_7) H := hP
    have hD : va_D A ([(mw, .inl (ct 0, 958, .inl f)), (mo, .inr (11, [.ref mw, .ref ma, .ref mf, .ref m0, .ref m1, .ref mu, .ref mv, .ref u0, .ref u1, .ref iz, .int th1_8, .ref mb, .int mn, .int mpt, .int mbg, .int mwr, .int mwk, .int mlf, .int men]))] ++ ws_7) := hD
    rcases hp_9 with ⟨rfl, hz_10⟩ | rfl
    · refine lv_if_ne (tgt := 62) hx hb dX11_stepValue_34 (by decide) (fun hc => absurd (by decide) hc) (fun _ => ?_)
      refine lv_aload_n hx hb dX11_stepValue_37 rfl (lv_at hl 0 rfl) ?_
      refine lv_iload_n hx hb dX11_stepValue_38 rfl (lv_at hl 3 rfl) ?_
      refine lv_i2l hx hb dX11_stepValue_39 rfl ?_
      refine lv_lconst (v := 0) hx hb dX11_stepValue_40 (by decide) ?_
      refine lv_ldc2 hx hb hown (hts _ kl_RX11_326) dX11_stepValue_41 ?_
      refine ty_ki (wr := [(mw, .inl (ct 0, 958, .inl f)), (mo, .inr (11, [.ref mw, .ref ma, .ref mf, .ref m0, .ref m1, .ref mu, .ref mv, .ref u0, .ref u1, .ref iz, .int th1_8, .ref mb, .int mn, .int mpt, .int mbg, .int mwr, .int mwk, .int mlf, .int men]))]) (wc := ([] ++ ws_7)) (va_runS (As := [.long p3.toInt64, .long 0, .long 2]) (rest := [.ref mo]) ⟨hx, hb, hml, hown, hts⟩ (m_X11_in l D ct S ws_7 p3.toInt64 (0 : Int64) (2 : Int64) _ hT) (cm_S 3 hts kc_X11_in ki_RX11 kl_RX11_70 ks_X11_in kd_X11_in ⟨Nat.le_of_ble_eq_true rfl, Nat.le_of_ble_eq_true rfl⟩) (ty_preS (wr := [(mw, .inl (ct 0, 958, .inl f)), (mo, .inr (11, [.ref mw, .ref ma, .ref mf, .ref m0, .ref m1, .ref mu, .ref mv, .ref u0, .ref u1, .ref iz, .int th1_8, .ref mb, .int mn, .int mpt, .int mbg, .int mwr, .int mwk, .int mlf, .int men]))]) (wc := ([] ++ ws_7)) hP hK hD hS hA hX) rfl rfl hl.1 rfl (lv_room (Nat.le_of_ble_eq_true rfl)) dX11_stepValue_44 ⟨Nat.le_of_ble_eq_true rfl, Nat.le_of_ble_eq_true rfl⟩) hP hD hS hA (fun r_11 u H locs hw_12 hP hD hS => ?_)
      obtain ⟨ws_13, rfl⟩ : ∃ z, z = u := ⟨_, rfl⟩
      obtain ⟨hT, rfl⟩ := hw_12
      have hP : va_P D vwCl ([(mw, .inl (ct 0, 958, .inl f)), (mo, .inr (11, [.ref mw, .ref ma, .ref mf, .ref m0, .ref m1, .ref mu, .ref mv, .ref u0, .ref u1, .ref iz, .int th1_8, .ref mb, .int mn, .int mpt, .int mbg, .int mwr, .int mwk, .int mlf, .int men]))] ++ ws_13) H := hP
      have hD : va_D A ([(mw, .inl (ct 0, 958, .inl f)), (mo, .inr (11, [.ref mw, .ref ma, .ref mf, .ref m0, .ref m1, .ref mu, .ref mv, .ref u0, .ref u1, .ref iz, .int th1_8, .ref mb, .int mn, .int mpt, .int mbg, .int mwr, .int mwk, .int mlf, .int men]))] ++ ws_13) := hD
      refine lv_if_ne (tgt := 54) hx hb dX11_stepValue_47 (by decide) (fun hc_14 => ?_) (fun hc_14 => ?_)
      · refine lv_iconst (v := 0) hx hb dX11_stepValue_54 (by decide) ?_
        refine lv_iconst (v := 2) hx hb dX11_stepValue_55 (by decide) ?_
        refine ty_ki (wr := [(mw, .inl (ct 0, 958, .inl f))]) (wc := ([(mo, .inr (11, [.ref mw, .ref ma, .ref mf, .ref m0, .ref m1, .ref mu, .ref mv, .ref u0, .ref u1, .ref iz, .int th1_8, .ref mb, .int mn, .int mpt, .int mbg, .int mwr, .int mwk, .int mlf, .int men]))] ++ ws_13)) (va_runV (As := [.int 0, .int 2]) (rest := []) ⟨hx, hb, hml, hown, hts⟩ (m_X11_throwsIf l D ct S ws_13 mo mw ma mf m0 m1 mu mv u0 u1 iz mb th1_8 mn mpt mbg mwr mwk mlf men (0 : Int32) (2 : Int32) _ hT h_mu h_mv h_u0 h_u1 (by decide)) (cm_V 2 hts kc_X11_throwsIf ki_RX11 kl_RX11_328 kv_X11_throwsIf kx_X11_throwsIf kd_X11_throwsIf ⟨Nat.le_of_ble_eq_true rfl, Nat.le_of_ble_eq_true rfl⟩) (ty_preE (wr := [(mw, .inl (ct 0, 958, .inl f))]) (wc := ([(mo, .inr (11, [.ref mw, .ref ma, .ref mf, .ref m0, .ref m1, .ref mu, .ref mv, .ref u0, .ref u1, .ref iz, .int th1_8, .ref mb, .int mn, .int mpt, .int mbg, .int mwr, .int mwk, .int mlf, .int men]))] ++ ws_13)) (ci := 11) (q0 := 1) hP hK hD hS hA hX rfl rfl) rfl rfl hl.1 rfl (lv_room (Nat.le_of_ble_eq_true rfl)) dX11_stepValue_56 ⟨Nat.le_of_ble_eq_true rfl, Nat.le_of_ble_eq_true rfl⟩) hP hD hS hA (fun r_15 u H locs hw_16 hP hD hS => ?_)
        obtain ⟨ws_17, th1_18⟩ := u
        obtain ⟨hT, hp_19⟩ := hw_16
        have hp_19 : ((r_15 = 0 ∧ (0 : Int32) = 0) ∨ r_15 = 1) := hp_19
        have hP : va_P D vwCl ([(mw, .inl (ct 0, 958, .inl f)), (mo, .inr (11, [.ref mw, .ref ma, .ref mf, .ref m0, .ref m1, .ref mu, .ref mv, .ref u0, .ref u1, .ref iz, .int th1_18, .ref mb, .int mn, .int mpt, .int mbg, .int mwr, .int mwk, .int mlf, .int men]))] ++ ws_17) H := hP
        have hD : va_D A ([(mw, .inl (ct 0, 958, .inl f)), (mo, .inr (11, [.ref mw, .ref ma, .ref mf, .ref m0, .ref m1, .ref mu, .ref mv, .ref u0, .ref u1, .ref iz, .int th1_18, .ref mb, .int mn, .int mpt, .int mbg, .int mwr, .int mwk, .int mlf, .int men]))] ++ ws_17) := hD
        rcases hp_19 with ⟨rfl, hz_20⟩ | rfl
        · refine lv_if_eq (tgt := 64) hx hb dX11_stepValue_59 (by decide) (fun _ => ?_) (fun hc => absurd (by decide) hc)
          refine lv_iload_n hx hb dX11_stepValue_64 rfl (lv_at hl 2 rfl) ?_
          refine lv_i2l hx hb dX11_stepValue_65 rfl ?_
          refine lv_lconst (v := 0) hx hb dX11_stepValue_66 (by decide) ?_
          refine lv_aload_n hx hb dX11_stepValue_67 rfl (lv_at hl 0 rfl) ?_
          refine lv_iload_n hx hb dX11_stepValue_68 rfl (lv_at hl 1 rfl) ?_
          have hP : va_P D vwCl ([(mo, .inr (11, [.ref mw, .ref ma, .ref mf, .ref m0, .ref m1, .ref mu, .ref mv, .ref u0, .ref u1, .ref iz, .int th1_18, .ref mb, .int mn, .int mpt, .int mbg, .int mwr, .int mwk, .int mlf, .int men])), (mw, .inl (ct 0, 958, .inl f))] ++ ws_17) H := ty_permP hP (ty_ordp (E := [(mw, .inl (ct 0, 958, .inl f)), (mo, .inr (11, [.ref mw, .ref ma, .ref mf, .ref m0, .ref m1, .ref mu, .ref mv, .ref u0, .ref u1, .ref iz, .int th1_18, .ref mb, .int mn, .int mpt, .int mbg, .int mwr, .int mwk, .int mlf, .int men]))]) (E2 := [(mo, .inr (11, [.ref mw, .ref ma, .ref mf, .ref m0, .ref m1, .ref mu, .ref mv, .ref u0, .ref u1, .ref iz, .int th1_18, .ref mb, .int mn, .int mpt, .int mbg, .int mwr, .int mwk, .int mlf, .int men])), (mw, .inl (ct 0, 958, .inl f))]) (n := 2) [1, 0] rfl rfl (by decide))
          have hD : va_D A ([(mo, .inr (11, [.ref mw, .ref ma, .ref mf, .ref m0, .ref m1, .ref mu, .ref mv, .ref u0, .ref u1, .ref iz, .int th1_18, .ref mb, .int mn, .int mpt, .int mbg, .int mwr, .int mwk, .int mlf, .int men])), (mw, .inl (ct 0, 958, .inl f))] ++ ws_17) := ty_permD hD (ty_ordp (E := [(mw, .inl (ct 0, 958, .inl f)), (mo, .inr (11, [.ref mw, .ref ma, .ref mf, .ref m0, .ref m1, .ref mu, .ref mv, .ref u0, .ref u1, .ref iz, .int th1_18, .ref mb, .int mn, .int mpt, .int mbg, .int mwr, .int mwk, .int mlf, .int men]))]) (E2 := [(mo, .inr (11, [.ref mw, .ref ma, .ref mf, .ref m0, .ref m1, .ref mu, .ref mv, .ref u0, .ref u1, .ref iz, .int th1_18, .ref mb, .int mn, .int mpt, .int mbg, .int mwr, .int mwk, .int mlf, .int men])), (mw, .inl (ct 0, 958, .inl f))]) (n := 2) [1, 0] rfl rfl (by decide))
          refine ty_ki (wr := []) (wc := ([(mo, .inr (11, [.ref mw, .ref ma, .ref mf, .ref m0, .ref m1, .ref mu, .ref mv, .ref u0, .ref u1, .ref iz, .int th1_18, .ref mb, .int mn, .int mpt, .int mbg, .int mwr, .int mwk, .int mlf, .int men])), (mw, .inl (ct 0, 958, .inl f))] ++ ws_17)) (va_runV (As := [.int p1]) (rest := [.long 0, .long p2.toInt64]) ⟨hx, hb, hml, hown, hts⟩ (m_X11_stepsOf l D ct S ws_17 mo mw ma mf m0 m1 mu mv u0 u1 iz mb th1_18 mn mpt mbg mwr mwk mlf men f G cx p1 _ hT h_mu h_mv h_u0 h_u1 hR (rf_p4 hR (rf_prog hR hc_4))) (cm_V 1 hts kc_X11_stepsOf ki_RX11 kl_RX11_276 kv_X11_stepsOf kx_X11_stepsOf kd_X11_stepsOf ⟨Nat.le_of_ble_eq_true rfl, Nat.le_of_ble_eq_true rfl⟩) (ty_preE (wr := []) (wc := ([(mo, .inr (11, [.ref mw, .ref ma, .ref mf, .ref m0, .ref m1, .ref mu, .ref mv, .ref u0, .ref u1, .ref iz, .int th1_18, .ref mb, .int mn, .int mpt, .int mbg, .int mwr, .int mwk, .int mlf, .int men])), (mw, .inl (ct 0, 958, .inl f))] ++ ws_17)) (ci := 11) (q0 := 0) hP hK hD hS hA hX rfl rfl) rfl rfl hl.1 rfl (lv_room (Nat.le_of_ble_eq_true rfl)) dX11_stepValue_69 ⟨Nat.le_of_ble_eq_true rfl, Nat.le_of_ble_eq_true rfl⟩) hP hD hS hA (fun r_21 u H locs hw_22 hP hD hS => ?_)
          obtain ⟨ws_23, rfl⟩ : ∃ z, z = u := ⟨_, rfl⟩
          obtain ⟨hT, rfl⟩ := hw_22
          have hP : va_P D vwCl ([(mo, .inr (11, [.ref mw, .ref ma, .ref mf, .ref m0, .ref m1, .ref mu, .ref mv, .ref u0, .ref u1, .ref iz, .int th1_18, .ref mb, .int mn, .int mpt, .int mbg, .int mwr, .int mwk, .int mlf, .int men])), (mw, .inl (ct 0, 958, .inl f))] ++ ws_23) H := hP
          have hD : va_D A ([(mo, .inr (11, [.ref mw, .ref ma, .ref mf, .ref m0, .ref m1, .ref mu, .ref mv, .ref u0, .ref u1, .ref iz, .int th1_18, .ref mb, .int mn, .int mpt, .int mbg, .int mwr, .int mwk, .int mlf, .int men])), (mw, .inl (ct 0, 958, .inl f))] ++ ws_23) := hD
          refine lv_iconst (v := 1) hx hb dX11_stepValue_72 (by decide) ?_
          refine lv_isub hx hb dX11_stepValue_73 ?_
          refine lv_i2l hx hb dX11_stepValue_74 rfl ?_
          refine ty_ki (wr := [(mo, .inr (11, [.ref mw, .ref ma, .ref mf, .ref m0, .ref m1, .ref mu, .ref mv, .ref u0, .ref u1, .ref iz, .int th1_18, .ref mb, .int mn, .int mpt, .int mbg, .int mwr, .int mwk, .int mlf, .int men])), (mw, .inl (ct 0, 958, .inl f))]) (wc := ([] ++ ws_23)) (va_runS (As := [.long p2.toInt64, .long 0, .long (((f (96 + 37 * p1.toInt.toNat)) - 1).toInt64)]) (rest := []) ⟨hx, hb, hml, hown, hts⟩ (m_X11_in l D ct S ws_23 p2.toInt64 (0 : Int64) (((f (96 + 37 * p1.toInt.toNat)) - 1).toInt64) _ hT) (cm_S 3 hts kc_X11_in ki_RX11 kl_RX11_70 ks_X11_in kd_X11_in ⟨Nat.le_of_ble_eq_true rfl, Nat.le_of_ble_eq_true rfl⟩) (ty_preS (wr := [(mo, .inr (11, [.ref mw, .ref ma, .ref mf, .ref m0, .ref m1, .ref mu, .ref mv, .ref u0, .ref u1, .ref iz, .int th1_18, .ref mb, .int mn, .int mpt, .int mbg, .int mwr, .int mwk, .int mlf, .int men])), (mw, .inl (ct 0, 958, .inl f))]) (wc := ([] ++ ws_23)) hP hK hD hS hA hX) rfl rfl hl.1 rfl (lv_room (Nat.le_of_ble_eq_true rfl)) dX11_stepValue_75 ⟨Nat.le_of_ble_eq_true rfl, Nat.le_of_ble_eq_true rfl⟩) hP hD hS hA (fun r_24 u H locs hw_25 hP hD hS => ?_)
          obtain ⟨ws_26, rfl⟩ : ∃ z, z = u := ⟨_, rfl⟩
          obtain ⟨hT, rfl⟩ := hw_25
          have hP : va_P D vwCl ([(mo, .inr (11, [.ref mw, .ref ma, .ref mf, .ref m0, .ref m1, .ref mu, .ref mv, .ref u0, .ref u1, .ref iz, .int th1_18, .ref mb, .int mn, .int mpt, .int mbg, .int mwr, .int mwk, .int mlf, .int men])), (mw, .inl (ct 0, 958, .inl f))] ++ ws_26) H := hP
          have hD : va_D A ([(mo, .inr (11, [.ref mw, .ref ma, .ref mf, .ref m0, .ref m1, .ref mu, .ref mv, .ref u0, .ref u1, .ref iz, .int th1_18, .ref mb, .int mn, .int mpt, .int mbg, .int mwr, .int mwk, .int mlf, .int men])), (mw, .inl (ct 0, 958, .inl f))] ++ ws_26) := hD
          refine lv_if_eq (tgt := 91) hx hb dX11_stepValue_78 (by decide) (fun hc_27 => ?_) (fun hc_27 => ?_)
          · refine lv_iconst (v := (-1)) hx hb dX11_stepValue_91 (by decide) ?_
            exact W.iret (v := (-1)) hx hb hr (fun t ht hW => ⟨⟨(-1), (ws_26, th1_18), rfl, hT, by rw [ht]; exact hP, by rw [hAe]; exact hD⟩, hS.F ht⟩) hS.2.2 dX11_stepValue_92
          · refine lv_aload_n hx hb dX11_stepValue_81 rfl (lv_at hl 0 rfl) ?_
            refine lv_iload_n hx hb dX11_stepValue_82 rfl (lv_at hl 1 rfl) ?_
            refine lv_iload_n hx hb dX11_stepValue_83 rfl (lv_at hl 2 rfl) ?_
            refine lv_iload_n hx hb dX11_stepValue_84 rfl (lv_at hl 3 rfl) ?_
            refine ty_ki (wr := []) (wc := ([(mo, .inr (11, [.ref mw, .ref ma, .ref mf, .ref m0, .ref m1, .ref mu, .ref mv, .ref u0, .ref u1, .ref iz, .int th1_18, .ref mb, .int mn, .int mpt, .int mbg, .int mwr, .int mwk, .int mlf, .int men])), (mw, .inl (ct 0, 958, .inl f))] ++ ws_26)) (va_runV (As := [.int p1, .int p2, .int p3]) (rest := []) ⟨hx, hb, hml, hown, hts⟩ (m_X11_stepOf l D ct S ws_26 mo mw ma mf m0 m1 mu mv u0 u1 iz mb th1_18 mn mpt mbg mwr mwk mlf men f G cx p1 p2 p3 _ hT h_mu h_mv h_u0 h_u1 hR (rf_p4 hR (rf_prog hR hc_4)) (by have := rf_psn hR (rf_prog hR hc_4); have := rf_rngi (L := 0) (by decide) (by omega) (rf_ne0 hc_27); omega) (rf_rngc (L := 0) (U := 2) (by decide) (by decide) hc_14)) (cm_V 3 hts kc_X11_stepOf ki_RX11 kl_RX11_218 kv_X11_stepOf kx_X11_stepOf kd_X11_stepOf ⟨Nat.le_of_ble_eq_true rfl, Nat.le_of_ble_eq_true rfl⟩) (ty_preE (wr := []) (wc := ([(mo, .inr (11, [.ref mw, .ref ma, .ref mf, .ref m0, .ref m1, .ref mu, .ref mv, .ref u0, .ref u1, .ref iz, .int th1_18, .ref mb, .int mn, .int mpt, .int mbg, .int mwr, .int mwk, .int mlf, .int men])), (mw, .inl (ct 0, 958, .inl f))] ++ ws_26)) (ci := 11) (q0 := 0) hP hK hD hS hA hX rfl rfl) rfl rfl hl.1 rfl (lv_room (Nat.le_of_ble_eq_true rfl)) dX11_stepValue_85 ⟨Nat.le_of_ble_eq_true rfl, Nat.le_of_ble_eq_true rfl⟩) hP hD hS hA (fun r_28 u H locs hw_29 hP hD hS => ?_)
            obtain ⟨ws_30, rfl⟩ : ∃ z, z = u := ⟨_, rfl⟩
            obtain ⟨hT, rfl⟩ := hw_29
            have hP : va_P D vwCl ([(mo, .inr (11, [.ref mw, .ref ma, .ref mf, .ref m0, .ref m1, .ref mu, .ref mv, .ref u0, .ref u1, .ref iz, .int th1_18, .ref mb, .int mn, .int mpt, .int mbg, .int mwr, .int mwk, .int mlf, .int men])), (mw, .inl (ct 0, 958, .inl f))] ++ ws_30) H := hP
            have hD : va_D A ([(mo, .inr (11, [.ref mw, .ref ma, .ref mf, .ref m0, .ref m1, .ref mu, .ref mv, .ref u0, .ref u1, .ref iz, .int th1_18, .ref mb, .int mn, .int mpt, .int mbg, .int mwr, .int mwk, .int mlf, .int men])), (mw, .inl (ct 0, 958, .inl f))] ++ ws_30) := hD
            refine lv_goto (tgt := 92) hx hb dX11_stepValue_88 (by decide) ?_
            exact W.iret (v := (f (97 + 37 * p1.toInt.toNat + 3 * p2.toInt.toNat + p3.toInt.toNat))) hx hb hr (fun t ht hW => ⟨⟨(f (97 + 37 * p1.toInt.toNat + 3 * p2.toInt.toNat + p3.toInt.toNat)), (ws_30, th1_18), rfl, hT, by rw [ht]; exact hP, by rw [hAe]; exact hD⟩, hS.F ht⟩) hS.2.2 dX11_stepValue_92
        · refine lv_if_eq (tgt := 64) hx hb dX11_stepValue_59 (by decide) (fun hc => absurd hc (by decide)) (fun _ => ?_)
          refine lv_iconst (v := 0) hx hb dX11_stepValue_62 (by decide) ?_
          have hP : va_P D vwCl ([(mo, .inr (11, [.ref mw, .ref ma, .ref mf, .ref m0, .ref m1, .ref mu, .ref mv, .ref u0, .ref u1, .ref iz, .int th1_18, .ref mb, .int mn, .int mpt, .int mbg, .int mwr, .int mwk, .int mlf, .int men])), (mw, .inl (ct 0, 958, .inl f))] ++ ws_17) H := ty_permP hP (ty_ordp (E := [(mw, .inl (ct 0, 958, .inl f)), (mo, .inr (11, [.ref mw, .ref ma, .ref mf, .ref m0, .ref m1, .ref mu, .ref mv, .ref u0, .ref u1, .ref iz, .int th1_18, .ref mb, .int mn, .int mpt, .int mbg, .int mwr, .int mwk, .int mlf, .int men]))]) (E2 := [(mo, .inr (11, [.ref mw, .ref ma, .ref mf, .ref m0, .ref m1, .ref mu, .ref mv, .ref u0, .ref u1, .ref iz, .int th1_18, .ref mb, .int mn, .int mpt, .int mbg, .int mwr, .int mwk, .int mlf, .int men])), (mw, .inl (ct 0, 958, .inl f))]) (n := 2) [1, 0] rfl rfl (by decide))
          have hD : va_D A ([(mo, .inr (11, [.ref mw, .ref ma, .ref mf, .ref m0, .ref m1, .ref mu, .ref mv, .ref u0, .ref u1, .ref iz, .int th1_18, .ref mb, .int mn, .int mpt, .int mbg, .int mwr, .int mwk, .int mlf, .int men])), (mw, .inl (ct 0, 958, .inl f))] ++ ws_17) := ty_permD hD (ty_ordp (E := [(mw, .inl (ct 0, 958, .inl f)), (mo, .inr (11, [.ref mw, .ref ma, .ref mf, .ref m0, .ref m1, .ref mu, .ref mv, .ref u0, .ref u1, .ref iz, .int th1_18, .ref mb, .int mn, .int mpt, .int mbg, .int mwr, .int mwk, .int mlf, .int men]))]) (E2 := [(mo, .inr (11, [.ref mw, .ref ma, .ref mf, .ref m0, .ref m1, .ref mu, .ref mv, .ref u0, .ref u1, .ref iz, .int th1_18, .ref mb, .int mn, .int mpt, .int mbg, .int mwr, .int mwk, .int mlf, .int men])), (mw, .inl (ct 0, 958, .inl f))]) (n := 2) [1, 0] rfl rfl (by decide))
          exact W.iret (v := 0) hx hb hr (fun t ht hW => ⟨⟨0, (ws_17, th1_18), rfl, hT, by rw [ht]; exact hP, by rw [hAe]; exact hD⟩, hS.F ht⟩) hS.2.2 dX11_stepValue_63
      · refine lv_iconst (v := 1) hx hb dX11_stepValue_50 (by decide) ?_
        refine lv_goto (tgt := 55) hx hb dX11_stepValue_51 (by decide) ?_
        refine lv_iconst (v := 2) hx hb dX11_stepValue_55 (by decide) ?_
        refine ty_ki (wr := [(mw, .inl (ct 0, 958, .inl f))]) (wc := ([(mo, .inr (11, [.ref mw, .ref ma, .ref mf, .ref m0, .ref m1, .ref mu, .ref mv, .ref u0, .ref u1, .ref iz, .int th1_8, .ref mb, .int mn, .int mpt, .int mbg, .int mwr, .int mwk, .int mlf, .int men]))] ++ ws_13)) (va_runV (As := [.int 1, .int 2]) (rest := []) ⟨hx, hb, hml, hown, hts⟩ (m_X11_throwsIf l D ct S ws_13 mo mw ma mf m0 m1 mu mv u0 u1 iz mb th1_8 mn mpt mbg mwr mwk mlf men (1 : Int32) (2 : Int32) _ hT h_mu h_mv h_u0 h_u1 (by decide)) (cm_V 2 hts kc_X11_throwsIf ki_RX11 kl_RX11_328 kv_X11_throwsIf kx_X11_throwsIf kd_X11_throwsIf ⟨Nat.le_of_ble_eq_true rfl, Nat.le_of_ble_eq_true rfl⟩) (ty_preE (wr := [(mw, .inl (ct 0, 958, .inl f))]) (wc := ([(mo, .inr (11, [.ref mw, .ref ma, .ref mf, .ref m0, .ref m1, .ref mu, .ref mv, .ref u0, .ref u1, .ref iz, .int th1_8, .ref mb, .int mn, .int mpt, .int mbg, .int mwr, .int mwk, .int mlf, .int men]))] ++ ws_13)) (ci := 11) (q0 := 1) hP hK hD hS hA hX rfl rfl) rfl rfl hl.1 rfl (lv_room (Nat.le_of_ble_eq_true rfl)) dX11_stepValue_56 ⟨Nat.le_of_ble_eq_true rfl, Nat.le_of_ble_eq_true rfl⟩) hP hD hS hA (fun r_31 u H locs hw_32 hP hD hS => ?_)
        obtain ⟨ws_33, th1_34⟩ := u
        obtain ⟨hT, hp_35⟩ := hw_32
        have hp_35 : ((r_31 = 0 ∧ (1 : Int32) = 0) ∨ r_31 = 1) := hp_35
        have hP : va_P D vwCl ([(mw, .inl (ct 0, 958, .inl f)), (mo, .inr (11, [.ref mw, .ref ma, .ref mf, .ref m0, .ref m1, .ref mu, .ref mv, .ref u0, .ref u1, .ref iz, .int th1_34, .ref mb, .int mn, .int mpt, .int mbg, .int mwr, .int mwk, .int mlf, .int men]))] ++ ws_33) H := hP
        have hD : va_D A ([(mw, .inl (ct 0, 958, .inl f)), (mo, .inr (11, [.ref mw, .ref ma, .ref mf, .ref m0, .ref m1, .ref mu, .ref mv, .ref u0, .ref u1, .ref iz, .int th1_34, .ref mb, .int mn, .int mpt, .int mbg, .int mwr, .int mwk, .int mlf, .int men]))] ++ ws_33) := hD
        rcases hp_35 with ⟨rfl, hz_36⟩ | rfl
        · exact absurd hz_36 (by decide)
        · refine lv_if_eq (tgt := 64) hx hb dX11_stepValue_59 (by decide) (fun hc => absurd hc (by decide)) (fun _ => ?_)
          refine lv_iconst (v := 0) hx hb dX11_stepValue_62 (by decide) ?_
          have hP : va_P D vwCl ([(mo, .inr (11, [.ref mw, .ref ma, .ref mf, .ref m0, .ref m1, .ref mu, .ref mv, .ref u0, .ref u1, .ref iz, .int th1_34, .ref mb, .int mn, .int mpt, .int mbg, .int mwr, .int mwk, .int mlf, .int men])), (mw, .inl (ct 0, 958, .inl f))] ++ ws_33) H := ty_permP hP (ty_ordp (E := [(mw, .inl (ct 0, 958, .inl f)), (mo, .inr (11, [.ref mw, .ref ma, .ref mf, .ref m0, .ref m1, .ref mu, .ref mv, .ref u0, .ref u1, .ref iz, .int th1_34, .ref mb, .int mn, .int mpt, .int mbg, .int mwr, .int mwk, .int mlf, .int men]))]) (E2 := [(mo, .inr (11, [.ref mw, .ref ma, .ref mf, .ref m0, .ref m1, .ref mu, .ref mv, .ref u0, .ref u1, .ref iz, .int th1_34, .ref mb, .int mn, .int mpt, .int mbg, .int mwr, .int mwk, .int mlf, .int men])), (mw, .inl (ct 0, 958, .inl f))]) (n := 2) [1, 0] rfl rfl (by decide))
          have hD : va_D A ([(mo, .inr (11, [.ref mw, .ref ma, .ref mf, .ref m0, .ref m1, .ref mu, .ref mv, .ref u0, .ref u1, .ref iz, .int th1_34, .ref mb, .int mn, .int mpt, .int mbg, .int mwr, .int mwk, .int mlf, .int men])), (mw, .inl (ct 0, 958, .inl f))] ++ ws_33) := ty_permD hD (ty_ordp (E := [(mw, .inl (ct 0, 958, .inl f)), (mo, .inr (11, [.ref mw, .ref ma, .ref mf, .ref m0, .ref m1, .ref mu, .ref mv, .ref u0, .ref u1, .ref iz, .int th1_34, .ref mb, .int mn, .int mpt, .int mbg, .int mwr, .int mwk, .int mlf, .int men]))]) (E2 := [(mo, .inr (11, [.ref mw, .ref ma, .ref mf, .ref m0, .ref m1, .ref mu, .ref mv, .ref u0, .ref u1, .ref iz, .int th1_34, .ref mb, .int mn, .int mpt, .int mbg, .int mwr, .int mwk, .int mlf, .int men])), (mw, .inl (ct 0, 958, .inl f))]) (n := 2) [1, 0] rfl rfl (by decide))
          exact W.iret (v := 0) hx hb hr (fun t ht hW => ⟨⟨0, (ws_33, th1_34), rfl, hT, by rw [ht]; exact hP, by rw [hAe]; exact hD⟩, hS.F ht⟩) hS.2.2 dX11_stepValue_63
    · refine lv_if_ne (tgt := 62) hx hb dX11_stepValue_34 (by decide) (fun _ => ?_) (fun hc => absurd hc (by decide))
      refine lv_iconst (v := 0) hx hb dX11_stepValue_62 (by decide) ?_
      have hP : va_P D vwCl ([(mo, .inr (11, [.ref mw, .ref ma, .ref mf, .ref m0, .ref m1, .ref mu, .ref mv, .ref u0, .ref u1, .ref iz, .int th1_8, .ref mb, .int mn, .int mpt, .int mbg, .int mwr, .int mwk, .int mlf, .int men])), (mw, .inl (ct 0, 958, .inl f))] ++ ws_7) H := ty_permP hP (ty_ordp (E := [(mw, .inl (ct 0, 958, .inl f)), (mo, .inr (11, [.ref mw, .ref ma, .ref mf, .ref m0, .ref m1, .ref mu, .ref mv, .ref u0, .ref u1, .ref iz, .int th1_8, .ref mb, .int mn, .int mpt, .int mbg, .int mwr, .int mwk, .int mlf, .int men]))]) (E2 := [(mo, .inr (11, [.ref mw, .ref ma, .ref mf, .ref m0, .ref m1, .ref mu, .ref mv, .ref u0, .ref u1, .ref iz, .int th1_8, .ref mb, .int mn, .int mpt, .int mbg, .int mwr, .int mwk, .int mlf, .int men])), (mw, .inl (ct 0, 958, .inl f))]) (n := 2) [1, 0] rfl rfl (by decide))
      have hD : va_D A ([(mo, .inr (11, [.ref mw, .ref ma, .ref mf, .ref m0, .ref m1, .ref mu, .ref mv, .ref u0, .ref u1, .ref iz, .int th1_8, .ref mb, .int mn, .int mpt, .int mbg, .int mwr, .int mwk, .int mlf, .int men])), (mw, .inl (ct 0, 958, .inl f))] ++ ws_7) := ty_permD hD (ty_ordp (E := [(mw, .inl (ct 0, 958, .inl f)), (mo, .inr (11, [.ref mw, .ref ma, .ref mf, .ref m0, .ref m1, .ref mu, .ref mv, .ref u0, .ref u1, .ref iz, .int th1_8, .ref mb, .int mn, .int mpt, .int mbg, .int mwr, .int mwk, .int mlf, .int men]))]) (E2 := [(mo, .inr (11, [.ref mw, .ref ma, .ref mf, .ref m0, .ref m1, .ref mu, .ref mv, .ref u0, .ref u1, .ref iz, .int th1_8, .ref mb, .int mn, .int mpt, .int mbg, .int mwr, .int mwk, .int mlf, .int men])), (mw, .inl (ct 0, 958, .inl f))]) (n := 2) [1, 0] rfl rfl (by decide))
      exact W.iret (v := 0) hx hb hr (fun t ht hW => ⟨⟨0, (ws_7, th1_8), rfl, hT, by rw [ht]; exact hP, by rw [hAe]; exact hD⟩, hS.F ht⟩) hS.2.2 dX11_stepValue_63
  · refine lv_iconst (v := 1) hx hb dX11_stepValue_25 (by decide) ?_
    refine lv_goto (tgt := 30) hx hb dX11_stepValue_26 (by decide) ?_
    refine lv_iconst (v := 1) hx hb dX11_stepValue_30 (by decide) ?_
    have hP : va_P D vwCl ([(mw, .inl (ct 0, 958, .inl f)), (mo, .inr (11, [.ref mw, .ref ma, .ref mf, .ref m0, .ref m1, .ref mu, .ref mv, .ref u0, .ref u1, .ref iz, .int 0, .ref mb, .int mn, .int mpt, .int mbg, .int mwr, .int mwk, .int mlf, .int men]))] ++ ws_3) H := ty_permP hP (ty_ordp (E := [(mo, .inr (11, [.ref mw, .ref ma, .ref mf, .ref m0, .ref m1, .ref mu, .ref mv, .ref u0, .ref u1, .ref iz, .int 0, .ref mb, .int mn, .int mpt, .int mbg, .int mwr, .int mwk, .int mlf, .int men])), (mw, .inl (ct 0, 958, .inl f))]) (E2 := [(mw, .inl (ct 0, 958, .inl f)), (mo, .inr (11, [.ref mw, .ref ma, .ref mf, .ref m0, .ref m1, .ref mu, .ref mv, .ref u0, .ref u1, .ref iz, .int 0, .ref mb, .int mn, .int mpt, .int mbg, .int mwr, .int mwk, .int mlf, .int men]))]) (n := 2) [1, 0] rfl rfl (by decide))
    have hD : va_D A ([(mw, .inl (ct 0, 958, .inl f)), (mo, .inr (11, [.ref mw, .ref ma, .ref mf, .ref m0, .ref m1, .ref mu, .ref mv, .ref u0, .ref u1, .ref iz, .int 0, .ref mb, .int mn, .int mpt, .int mbg, .int mwr, .int mwk, .int mlf, .int men]))] ++ ws_3) := ty_permD hD (ty_ordp (E := [(mo, .inr (11, [.ref mw, .ref ma, .ref mf, .ref m0, .ref m1, .ref mu, .ref mv, .ref u0, .ref u1, .ref iz, .int 0, .ref mb, .int mn, .int mpt, .int mbg, .int mwr, .int mwk, .int mlf, .int men])), (mw, .inl (ct 0, 958, .inl f))]) (E2 := [(mw, .inl (ct 0, 958, .inl f)), (mo, .inr (11, [.ref mw, .ref ma, .ref mf, .ref m0, .ref m1, .ref mu, .ref mv, .ref u0, .ref u1, .ref iz, .int 0, .ref mb, .int mn, .int mpt, .int mbg, .int mwr, .int mwk, .int mlf, .int men]))]) (n := 2) [1, 0] rfl rfl (by decide))
    refine ty_ki (wr := [(mw, .inl (ct 0, 958, .inl f))]) (wc := ([(mo, .inr (11, [.ref mw, .ref ma, .ref mf, .ref m0, .ref m1, .ref mu, .ref mv, .ref u0, .ref u1, .ref iz, .int 0, .ref mb, .int mn, .int mpt, .int mbg, .int mwr, .int mwk, .int mlf, .int men]))] ++ ws_3)) (va_runV (As := [.int 1, .int 1]) (rest := []) ⟨hx, hb, hml, hown, hts⟩ (m_X11_throwsIf l D ct S ws_3 mo mw ma mf m0 m1 mu mv u0 u1 iz mb (0 : Int32) mn mpt mbg mwr mwk mlf men (1 : Int32) (1 : Int32) _ hT h_mu h_mv h_u0 h_u1 (by decide)) (cm_V 2 hts kc_X11_throwsIf ki_RX11 kl_RX11_328 kv_X11_throwsIf kx_X11_throwsIf kd_X11_throwsIf ⟨Nat.le_of_ble_eq_true rfl, Nat.le_of_ble_eq_true rfl⟩) (ty_preE (wr := [(mw, .inl (ct 0, 958, .inl f))]) (wc := ([(mo, .inr (11, [.ref mw, .ref ma, .ref mf, .ref m0, .ref m1, .ref mu, .ref mv, .ref u0, .ref u1, .ref iz, .int 0, .ref mb, .int mn, .int mpt, .int mbg, .int mwr, .int mwk, .int mlf, .int men]))] ++ ws_3)) (ci := 11) (q0 := 1) hP hK hD hS hA hX rfl rfl) rfl rfl hl.1 rfl (lv_room (Nat.le_of_ble_eq_true rfl)) dX11_stepValue_31 ⟨Nat.le_of_ble_eq_true rfl, Nat.le_of_ble_eq_true rfl⟩) hP hD hS hA (fun r_37 u H locs hw_38 hP hD hS => ?_)
    obtain ⟨ws_39, th1_40⟩ := u
    obtain ⟨hT, hp_41⟩ := hw_38
    have hp_41 : ((r_37 = 0 ∧ (1 : Int32) = 0) ∨ r_37 = 1) := hp_41
    have hP : va_P D vwCl ([(mw, .inl (ct 0, 958, .inl f)), (mo, .inr (11, [.ref mw, .ref ma, .ref mf, .ref m0, .ref m1, .ref mu, .ref mv, .ref u0, .ref u1, .ref iz, .int th1_40, .ref mb, .int mn, .int mpt, .int mbg, .int mwr, .int mwk, .int mlf, .int men]))] ++ ws_39) H := hP
    have hD : va_D A ([(mw, .inl (ct 0, 958, .inl f)), (mo, .inr (11, [.ref mw, .ref ma, .ref mf, .ref m0, .ref m1, .ref mu, .ref mv, .ref u0, .ref u1, .ref iz, .int th1_40, .ref mb, .int mn, .int mpt, .int mbg, .int mwr, .int mwk, .int mlf, .int men]))] ++ ws_39) := hD
    rcases hp_41 with ⟨rfl, hz_42⟩ | rfl
    · exact absurd hz_42 (by decide)
    · refine lv_if_ne (tgt := 62) hx hb dX11_stepValue_34 (by decide) (fun _ => ?_) (fun hc => absurd hc (by decide))
      refine lv_iconst (v := 0) hx hb dX11_stepValue_62 (by decide) ?_
      have hP : va_P D vwCl ([(mo, .inr (11, [.ref mw, .ref ma, .ref mf, .ref m0, .ref m1, .ref mu, .ref mv, .ref u0, .ref u1, .ref iz, .int th1_40, .ref mb, .int mn, .int mpt, .int mbg, .int mwr, .int mwk, .int mlf, .int men])), (mw, .inl (ct 0, 958, .inl f))] ++ ws_39) H := ty_permP hP (ty_ordp (E := [(mw, .inl (ct 0, 958, .inl f)), (mo, .inr (11, [.ref mw, .ref ma, .ref mf, .ref m0, .ref m1, .ref mu, .ref mv, .ref u0, .ref u1, .ref iz, .int th1_40, .ref mb, .int mn, .int mpt, .int mbg, .int mwr, .int mwk, .int mlf, .int men]))]) (E2 := [(mo, .inr (11, [.ref mw, .ref ma, .ref mf, .ref m0, .ref m1, .ref mu, .ref mv, .ref u0, .ref u1, .ref iz, .int th1_40, .ref mb, .int mn, .int mpt, .int mbg, .int mwr, .int mwk, .int mlf, .int men])), (mw, .inl (ct 0, 958, .inl f))]) (n := 2) [1, 0] rfl rfl (by decide))
      have hD : va_D A ([(mo, .inr (11, [.ref mw, .ref ma, .ref mf, .ref m0, .ref m1, .ref mu, .ref mv, .ref u0, .ref u1, .ref iz, .int th1_40, .ref mb, .int mn, .int mpt, .int mbg, .int mwr, .int mwk, .int mlf, .int men])), (mw, .inl (ct 0, 958, .inl f))] ++ ws_39) := ty_permD hD (ty_ordp (E := [(mw, .inl (ct 0, 958, .inl f)), (mo, .inr (11, [.ref mw, .ref ma, .ref mf, .ref m0, .ref m1, .ref mu, .ref mv, .ref u0, .ref u1, .ref iz, .int th1_40, .ref mb, .int mn, .int mpt, .int mbg, .int mwr, .int mwk, .int mlf, .int men]))]) (E2 := [(mo, .inr (11, [.ref mw, .ref ma, .ref mf, .ref m0, .ref m1, .ref mu, .ref mv, .ref u0, .ref u1, .ref iz, .int th1_40, .ref mb, .int mn, .int mpt, .int mbg, .int mwr, .int mwk, .int mlf, .int men])), (mw, .inl (ct 0, 958, .inl f))]) (n := 2) [1, 0] rfl rfl (by decide))
      exact W.iret (v := 0) hx hb hr (fun t ht hW => ⟨⟨0, (ws_39, th1_40), rfl, hT, by rw [ht]; exact hP, by rw [hAe]; exact hD⟩, hS.F ht⟩) hS.2.2 dX11_stepValue_63
theorem dX11_now_0 : decode cX11_now 0 = .ok (.aload_n 0, 1) := by decide +kernel
theorem dX11_now_1 : decode cX11_now 1 = .ok (.iconst 0, 1) := by decide +kernel
theorem dX11_now_2 : decode cX11_now 2 = .ok (.putfield 49, 3) := by decide +kernel
theorem dX11_now_5 : decode cX11_now 5 = .ok (.aload_n 0, 1) := by decide +kernel
theorem dX11_now_6 : decode cX11_now 6 = .ok (.getfield 9, 3) := by decide +kernel
theorem dX11_now_9 : decode cX11_now 9 = .ok (.bipush 8, 2) := by decide +kernel
theorem dX11_now_11 : decode cX11_now 11 = .ok (.iaload, 1) := by decide +kernel
theorem dX11_now_12 : decode cX11_now 12 = .ok (.ireturn, 1) := by decide +kernel
set_option maxRecDepth 100000 in
set_option maxHeartbeats 4000000 in
theorem m_X11_now (l : Launch) (D : va_G) (ct : Nat → ClassId) (S : ty_S) (ws : va_W) (mo : Nat) (mw : Nat) (ma : Nat) (mf : Nat) (m0 : Nat) (m1 : Nat) (mu : Nat) (mv : Nat) (u0 : Nat) (u1 : Nat) (iz : Nat) (mb : Nat) (th : Int32) (mn : Int32) (mpt : Int32) (mbg : Int32) (mwr : Int32) (mwk : Int32) (mlf : Int32) (men : Int32) (f : Nat → Int32) (G : Nat → Int32) (cx : Int) (sz : Nat) (hT : ty_W ct S ws) (h_mu : S mu = some (.inr (1, 42))) (h_mv : S mv = some (.inr (1, 42))) (h_u0 : S u0 = some (.inr (1, 42))) (h_u1 : S u1 = some (.inr (1, 42))) (hR : rf_R G cx f) : Met l yX11_now (ws_ yX11_now cX11_now 1 (some .int)) ({ frames := 0, cells := 0, slots := 0, locals := 0 } : Room) (va_Pc [.ref mo] (cmP D ct sz ([(mo, .inr (11, [.ref mw, .ref ma, .ref mf, .ref m0, .ref m1, .ref mu, .ref mv, .ref u0, .ref u1, .ref iz, .int th, .ref mb, .int mn, .int mpt, .int mbg, .int mwr, .int mwk, .int mlf, .int men])), (mw, .inl (ct 0, 958, .inl f))] ++ ws))) (va_Qi (fun (r : Int32) (u : va_W × Int32) => match u with | (u9, th1) => ty_W ct S u9) (cmB D ([(mo, .inr (11, [.ref mw, .ref ma, .ref mf, .ref m0, .ref m1, .ref mu, .ref mv, .ref u0, .ref u1, .ref iz, .int th, .ref mb, .int mn, .int mpt, .int mbg, .int mwr, .int mwk, .int mlf, .int men])), (mw, .inl (ct 0, 958, .inl f))] ++ ws) sz (fun (u : va_W × Int32) => match u with | (u9, th1) => ([(mo, .inr (11, [.ref mw, .ref ma, .ref mf, .ref m0, .ref m1, .ref mu, .ref mv, .ref u0, .ref u1, .ref iz, .int th1, .ref mb, .int mn, .int mpt, .int mbg, .int mwr, .int mwk, .int mlf, .int men])), (mw, .inl (ct 0, 958, .inl f))] ++ u9))) (va_A ([(mo, .inr (11, [.ref mw, .ref ma, .ref mf, .ref m0, .ref m1, .ref mu, .ref mv, .ref u0, .ref u1, .ref iz, .int th, .ref mb, .int mn, .int mpt, .int mbg, .int mwr, .int mwk, .int mlf, .int men])), (mw, .inl (ct 0, 958, .inl f))] ++ ws) sz)) 0 0 (va_A ([(mo, .inr (11, [.ref mw, .ref ma, .ref mf, .ref m0, .ref m1, .ref mu, .ref mv, .ref u0, .ref u1, .ref iz, .int th, .ref mb, .int mn, .int mpt, .int mbg, .int mwr, .int mwk, .int mlf, .int men])), (mw, .inl (ct 0, 958, .inl f))] ++ ws) sz) := by
  refine Met.ofW (cc := cX11_now) (maxL := 1) (ret := (some .int)) (by decide) rfl ?_
  intro p e s m args below meth c s₁ B hml hv
  obtain ⟨rfl, hsz, hP, hK, hD0, hX⟩ := hv
  have hx := B.exec
  have hb := B.bytes
  have hr := B.returns
  have hts := ws_all (atoms_spec (ws := ws_ yX11_now cX11_now 1 (some .int)) B.pre)
  have hown : s.vm.findClass RX11 = some m.cls := findClass_of_methodNamed B.named
  have hlocks := B.notSynchronized
  subst hsz
  have hD := hD0.self (sz := s.heap.size)
  generalize hAe : va_A ([(mo, .inr (11, [.ref mw, .ref ma, .ref mf, .ref m0, .ref m1, .ref mu, .ref mv, .ref u0, .ref u1, .ref iz, .int th, .ref mb, .int mn, .int mpt, .int mbg, .int mwr, .int mwk, .int mlf, .int men])), (mw, .inl (ct 0, 958, .inl f))] ++ ws) s.heap.size = A at hD hX ⊢
  have hA : ∀ q : Nat, s.heap.size ≤ q → A q := fun q h => by rw [← hAe]; exact Or.inr h
  have hS : va_S A s.heap s.heap [] := va_S.rf
  have hl := lv_entry ([.ref mo]) (n := 1) (Nat.le_of_ble_eq_true rfl)
  rw [lg_entry_eq]
  generalize (lg_sl ([.ref mo]) ++ List.replicate (1 - (lg_sl ([.ref mo])).length) Slot.unset).toArray = ls at hl ⊢
  have hl : lv_has ls 1 [(0, .ref mo)] := hl
  refine lv_aload_n hx hb dX11_now_0 rfl (lv_at hl 0 rfl) ?_
  refine lv_iconst (v := 0) hx hb dX11_now_1 (by decide) ?_
  refine va_put (v := .int 0) (ty := .int) (D := D) (ci := 11) (C := RX11) (T := TX11) (N := 19) hx hb hts in_X11 tyX11 tyX11_ok nmX11 hown hK hP hD hS 0 rfl rfl 10 (by decide) (hts _ kl_RX11_49) (fun _ h9 => h9) rfl (by decide +kernel) rfl rfl (Nat.le_of_ble_eq_true rfl) dX11_now_2 (fun H locs hP hD hS => ?_)
  have hP : va_P D vwCl ([(mo, .inr (11, [.ref mw, .ref ma, .ref mf, .ref m0, .ref m1, .ref mu, .ref mv, .ref u0, .ref u1, .ref iz, .int 0, .ref mb, .int mn, .int mpt, .int mbg, .int mwr, .int mwk, .int mlf, .int men])), (mw, .inl (ct 0, 958, .inl f))] ++ ws) H := hP
  have hD : va_D A ([(mo, .inr (11, [.ref mw, .ref ma, .ref mf, .ref m0, .ref m1, .ref mu, .ref mv, .ref u0, .ref u1, .ref iz, .int 0, .ref mb, .int mn, .int mpt, .int mbg, .int mwr, .int mwk, .int mlf, .int men])), (mw, .inl (ct 0, 958, .inl f))] ++ ws) := hD
  refine lv_aload_n hx hb dX11_now_5 rfl (lv_at hl 0 rfl) ?_
  refine va_get (v := .ref mw) (D := D) (ci := 11) (C := RX11) (T := TX11) (N := 19) hx hb hts in_X11 hown hK hP 0 rfl rfl 0 (by decide) (hts _ kl_RX11_9) (fun _ h9 => h9) rfl dX11_now_6 ?_
  refine lv_bipush (v := 8) hx hb dX11_now_9 (by decide) ?_
  refine va_iald hx hb hK hP 1 0 rfl rfl (cm_vin (by decide)) dX11_now_11 ?_
  refine cm_cst (y := (f 8)) (by first | rfl | decide +kernel) ?_
  exact W.iret (v := (f 8)) hx hb hr (fun t ht hW => ⟨⟨(f 8), (ws, (0 : Int32)), rfl, hT, by rw [ht]; exact hP, by rw [hAe]; exact hD⟩, hS.F ht⟩) hS.2.2 dX11_now_12
theorem dX11_advance_0 : decode cX11_advance 0 = .ok (.aload_n 0, 1) := by decide +kernel
theorem dX11_advance_1 : decode cX11_advance 1 = .ok (.iconst 0, 1) := by decide +kernel
theorem dX11_advance_2 : decode cX11_advance 2 = .ok (.putfield 49, 3) := by decide +kernel
theorem dX11_advance_5 : decode cX11_advance 5 = .ok (.aload_n 0, 1) := by decide +kernel
theorem dX11_advance_6 : decode cX11_advance 6 = .ok (.iload_n 1, 1) := by decide +kernel
theorem dX11_advance_7 : decode cX11_advance 7 = .ok (.i2l, 1) := by decide +kernel
theorem dX11_advance_8 : decode cX11_advance 8 = .ok (.lconst 1, 1) := by decide +kernel
theorem dX11_advance_9 : decode cX11_advance 9 = .ok (.ldc2_w 338, 3) := by decide +kernel
theorem dX11_advance_12 : decode cX11_advance 12 = .ok (.invokestatic 70, 3) := by decide +kernel
theorem dX11_advance_15 : decode cX11_advance 15 = .ok (.ifCond .ne 7, 3) := by decide +kernel
theorem dX11_advance_18 : decode cX11_advance 18 = .ok (.iconst 1, 1) := by decide +kernel
theorem dX11_advance_19 : decode cX11_advance 19 = .ok (.goto 4, 3) := by decide +kernel
theorem dX11_advance_22 : decode cX11_advance 22 = .ok (.iconst 0, 1) := by decide +kernel
theorem dX11_advance_23 : decode cX11_advance 23 = .ok (.iconst 1, 1) := by decide +kernel
theorem dX11_advance_24 : decode cX11_advance 24 = .ok (.invokevirtual 328, 3) := by decide +kernel
theorem dX11_advance_27 : decode cX11_advance 27 = .ok (.ifCond .eq 5, 3) := by decide +kernel
theorem dX11_advance_30 : decode cX11_advance 30 = .ok (.iconst 0, 1) := by decide +kernel
theorem dX11_advance_31 : decode cX11_advance 31 = .ok (.ireturn, 1) := by decide +kernel
theorem dX11_advance_32 : decode cX11_advance 32 = .ok (.aload_n 0, 1) := by decide +kernel
theorem dX11_advance_33 : decode cX11_advance 33 = .ok (.getfield 9, 3) := by decide +kernel
theorem dX11_advance_36 : decode cX11_advance 36 = .ok (.bipush 8, 2) := by decide +kernel
theorem dX11_advance_38 : decode cX11_advance 38 = .ok (.iaload, 1) := by decide +kernel
theorem dX11_advance_39 : decode cX11_advance 39 = .ok (.iload_n 1, 1) := by decide +kernel
theorem dX11_advance_40 : decode cX11_advance 40 = .ok (.iadd, 1) := by decide +kernel
theorem dX11_advance_41 : decode cX11_advance 41 = .ok (.ldc_w 340, 3) := by decide +kernel
theorem dX11_advance_44 : decode cX11_advance 44 = .ok (.if_icmp .le 6, 3) := by decide +kernel
theorem dX11_advance_47 : decode cX11_advance 47 = .ok (.bipush (-2), 2) := by decide +kernel
theorem dX11_advance_49 : decode cX11_advance 49 = .ok (.ireturn, 1) := by decide +kernel
theorem dX11_advance_50 : decode cX11_advance 50 = .ok (.aload_n 0, 1) := by decide +kernel
theorem dX11_advance_51 : decode cX11_advance 51 = .ok (.iconst 0, 1) := by decide +kernel
theorem dX11_advance_52 : decode cX11_advance 52 = .ok (.putfield 300, 3) := by decide +kernel
theorem dX11_advance_55 : decode cX11_advance 55 = .ok (.iconst 0, 1) := by decide +kernel
theorem dX11_advance_56 : decode cX11_advance 56 = .ok (.istore_n 2, 1) := by decide +kernel
theorem dX11_advance_57 : decode cX11_advance 57 = .ok (.iload_n 2, 1) := by decide +kernel
theorem dX11_advance_58 : decode cX11_advance 58 = .ok (.iload_n 1, 1) := by decide +kernel
theorem dX11_advance_59 : decode cX11_advance 59 = .ok (.if_icmp .ge 13, 3) := by decide +kernel
theorem dX11_advance_62 : decode cX11_advance 62 = .ok (.aload_n 0, 1) := by decide +kernel
theorem dX11_advance_63 : decode cX11_advance 63 = .ok (.invokevirtual 341, 3) := by decide +kernel
theorem dX11_advance_66 : decode cX11_advance 66 = .ok (.iinc 2 1, 3) := by decide +kernel
theorem dX11_advance_69 : decode cX11_advance 69 = .ok (.goto (-12), 3) := by decide +kernel
theorem dX11_advance_72 : decode cX11_advance 72 = .ok (.aload_n 0, 1) := by decide +kernel
theorem dX11_advance_73 : decode cX11_advance 73 = .ok (.getfield 300, 3) := by decide +kernel
theorem dX11_advance_76 : decode cX11_advance 76 = .ok (.ireturn, 1) := by decide +kernel
set_option maxRecDepth 100000 in
set_option maxHeartbeats 4000000 in
theorem m_X11_advance (l : Launch) (D : va_G) (ct : Nat → ClassId) (S : ty_S) (ws : va_W) (mo : Nat) (mw : Nat) (ma : Nat) (mf : Nat) (m0 : Nat) (m1 : Nat) (mu : Nat) (mv : Nat) (u0 : Nat) (u1 : Nat) (iz : Nat) (mb : Nat) (th : Int32) (mn : Int32) (mpt : Int32) (mbg : Int32) (mwr : Int32) (mwk : Int32) (mlf : Int32) (men : Int32) (f : Nat → Int32) (G : Nat → Int32) (p1 : Int32) (sz : Nat) (hT : ty_W ct S ws) (h_mu : S mu = some (.inr (1, 42))) (h_mv : S mv = some (.inr (1, 42))) (h_u0 : S u0 = some (.inr (1, 42))) (h_u1 : S u1 = some (.inr (1, 42))) (hR : rf_R G (-1) f) : Met l yX11_advance (ws_ yX11_advance cX11_advance 3 (some .int)) ({ frames := 8, cells := 0, slots := 0, locals := 186 } : Room) (va_Pc [.ref mo, .int p1] (cmP D ct sz ([(mo, .inr (11, [.ref mw, .ref ma, .ref mf, .ref m0, .ref m1, .ref mu, .ref mv, .ref u0, .ref u1, .ref iz, .int th, .ref mb, .int mn, .int mpt, .int mbg, .int mwr, .int mwk, .int mlf, .int men])), (mw, .inl (ct 0, 958, .inl f))] ++ ws))) (va_Qi (fun (r : Int32) (u : va_W × Int32 × Int32 × (Nat → Int32)) => match u with | (u9, men1, th1, f1) => ty_W ct S u9 ∧ rf_R G (-1) f1) (cmB D ([(mo, .inr (11, [.ref mw, .ref ma, .ref mf, .ref m0, .ref m1, .ref mu, .ref mv, .ref u0, .ref u1, .ref iz, .int th, .ref mb, .int mn, .int mpt, .int mbg, .int mwr, .int mwk, .int mlf, .int men])), (mw, .inl (ct 0, 958, .inl f))] ++ ws) sz (fun (u : va_W × Int32 × Int32 × (Nat → Int32)) => match u with | (u9, men1, th1, f1) => ([(mo, .inr (11, [.ref mw, .ref ma, .ref mf, .ref m0, .ref m1, .ref mu, .ref mv, .ref u0, .ref u1, .ref iz, .int th1, .ref mb, .int mn, .int mpt, .int mbg, .int mwr, .int mwk, .int mlf, .int men1])), (mw, .inl (ct 0, 958, .inl f1))] ++ u9))) (va_A ([(mo, .inr (11, [.ref mw, .ref ma, .ref mf, .ref m0, .ref m1, .ref mu, .ref mv, .ref u0, .ref u1, .ref iz, .int th, .ref mb, .int mn, .int mpt, .int mbg, .int mwr, .int mwk, .int mlf, .int men])), (mw, .inl (ct 0, 958, .inl f))] ++ ws) sz)) 0 0 (va_A ([(mo, .inr (11, [.ref mw, .ref ma, .ref mf, .ref m0, .ref m1, .ref mu, .ref mv, .ref u0, .ref u1, .ref iz, .int th, .ref mb, .int mn, .int mpt, .int mbg, .int mwr, .int mwk, .int mlf, .int men])), (mw, .inl (ct 0, 958, .inl f))] ++ ws) sz) := by
  refine Met.ofW (cc := cX11_advance) (maxL := 3) (ret := (some .int)) (by decide) rfl ?_
  intro p e s m args below meth c s₁ B hml hv
  obtain ⟨rfl, hsz, hP, hK, hD0, hX⟩ := hv
  have hx := B.exec
  have hb := B.bytes
  have hr := B.returns
  have hts := ws_all (atoms_spec (ws := ws_ yX11_advance cX11_advance 3 (some .int)) B.pre)
  have hown : s.vm.findClass RX11 = some m.cls := findClass_of_methodNamed B.named
  have hlocks := B.notSynchronized
  subst hsz
  have hD := hD0.self (sz := s.heap.size)
  generalize hAe : va_A ([(mo, .inr (11, [.ref mw, .ref ma, .ref mf, .ref m0, .ref m1, .ref mu, .ref mv, .ref u0, .ref u1, .ref iz, .int th, .ref mb, .int mn, .int mpt, .int mbg, .int mwr, .int mwk, .int mlf, .int men])), (mw, .inl (ct 0, 958, .inl f))] ++ ws) s.heap.size = A at hD hX ⊢
  have hA : ∀ q : Nat, s.heap.size ≤ q → A q := fun q h => by rw [← hAe]; exact Or.inr h
  have hS : va_S A s.heap s.heap [] := va_S.rf
  have hl := lv_entry ([.ref mo, .int p1]) (n := 3) (Nat.le_of_ble_eq_true rfl)
  rw [lg_entry_eq]
  generalize (lg_sl ([.ref mo, .int p1]) ++ List.replicate (3 - (lg_sl ([.ref mo, .int p1])).length) Slot.unset).toArray = ls at hl ⊢
  have hl : lv_has ls 3 [(0, .ref mo), (1, .int p1)] := hl
  refine lv_aload_n hx hb dX11_advance_0 rfl (lv_at hl 0 rfl) ?_
  refine lv_iconst (v := 0) hx hb dX11_advance_1 (by decide) ?_
  refine va_put (v := .int 0) (ty := .int) (D := D) (ci := 11) (C := RX11) (T := TX11) (N := 19) hx hb hts in_X11 tyX11 tyX11_ok nmX11 hown hK hP hD hS 0 rfl rfl 10 (by decide) (hts _ kl_RX11_49) (fun _ h9 => h9) rfl (by decide +kernel) rfl rfl (Nat.le_of_ble_eq_true rfl) dX11_advance_2 (fun H locs hP hD hS => ?_)
  have hP : va_P D vwCl ([(mo, .inr (11, [.ref mw, .ref ma, .ref mf, .ref m0, .ref m1, .ref mu, .ref mv, .ref u0, .ref u1, .ref iz, .int 0, .ref mb, .int mn, .int mpt, .int mbg, .int mwr, .int mwk, .int mlf, .int men])), (mw, .inl (ct 0, 958, .inl f))] ++ ws) H := hP
  have hD : va_D A ([(mo, .inr (11, [.ref mw, .ref ma, .ref mf, .ref m0, .ref m1, .ref mu, .ref mv, .ref u0, .ref u1, .ref iz, .int 0, .ref mb, .int mn, .int mpt, .int mbg, .int mwr, .int mwk, .int mlf, .int men])), (mw, .inl (ct 0, 958, .inl f))] ++ ws) := hD
  refine lv_aload_n hx hb dX11_advance_5 rfl (lv_at hl 0 rfl) ?_
  refine lv_iload_n hx hb dX11_advance_6 rfl (lv_at hl 1 rfl) ?_
  refine lv_i2l hx hb dX11_advance_7 rfl ?_
  refine lv_lconst (v := 1) hx hb dX11_advance_8 (by decide) ?_
  refine lv_ldc2 hx hb hown (hts _ kl_RX11_338) dX11_advance_9 ?_
  refine ty_ki (wr := [(mo, .inr (11, [.ref mw, .ref ma, .ref mf, .ref m0, .ref m1, .ref mu, .ref mv, .ref u0, .ref u1, .ref iz, .int 0, .ref mb, .int mn, .int mpt, .int mbg, .int mwr, .int mwk, .int mlf, .int men])), (mw, .inl (ct 0, 958, .inl f))]) (wc := ([] ++ ws)) (va_runS (As := [.long p1.toInt64, .long 1, .long 5000]) (rest := [.ref mo]) ⟨hx, hb, hml, hown, hts⟩ (m_X11_in l D ct S ws p1.toInt64 (1 : Int64) (5000 : Int64) _ hT) (cm_S 3 hts kc_X11_in ki_RX11 kl_RX11_70 ks_X11_in kd_X11_in ⟨Nat.le_of_ble_eq_true rfl, Nat.le_of_ble_eq_true rfl⟩) (ty_preS (wr := [(mo, .inr (11, [.ref mw, .ref ma, .ref mf, .ref m0, .ref m1, .ref mu, .ref mv, .ref u0, .ref u1, .ref iz, .int 0, .ref mb, .int mn, .int mpt, .int mbg, .int mwr, .int mwk, .int mlf, .int men])), (mw, .inl (ct 0, 958, .inl f))]) (wc := ([] ++ ws)) hP hK hD hS hA hX) rfl rfl hl.1 rfl (lv_room (Nat.le_of_ble_eq_true rfl)) dX11_advance_12 ⟨Nat.le_of_ble_eq_true rfl, Nat.le_of_ble_eq_true rfl⟩) hP hD hS hA (fun r_1 u H locs hw_2 hP hD hS => ?_)
  obtain ⟨ws_3, rfl⟩ : ∃ z, z = u := ⟨_, rfl⟩
  obtain ⟨hT, rfl⟩ := hw_2
  have hP : va_P D vwCl ([(mo, .inr (11, [.ref mw, .ref ma, .ref mf, .ref m0, .ref m1, .ref mu, .ref mv, .ref u0, .ref u1, .ref iz, .int 0, .ref mb, .int mn, .int mpt, .int mbg, .int mwr, .int mwk, .int mlf, .int men])), (mw, .inl (ct 0, 958, .inl f))] ++ ws_3) H := hP
  have hD : va_D A ([(mo, .inr (11, [.ref mw, .ref ma, .ref mf, .ref m0, .ref m1, .ref mu, .ref mv, .ref u0, .ref u1, .ref iz, .int 0, .ref mb, .int mn, .int mpt, .int mbg, .int mwr, .int mwk, .int mlf, .int men])), (mw, .inl (ct 0, 958, .inl f))] ++ ws_3) := hD
  refine lv_if_ne (tgt := 22) hx hb dX11_advance_15 (by decide) (fun hc_4 => ?_) (fun hc_4 => ?_)
  · refine lv_iconst (v := 0) hx hb dX11_advance_22 (by decide) ?_
    refine lv_iconst (v := 1) hx hb dX11_advance_23 (by decide) ?_
    have hP : va_P D vwCl ([(mw, .inl (ct 0, 958, .inl f)), (mo, .inr (11, [.ref mw, .ref ma, .ref mf, .ref m0, .ref m1, .ref mu, .ref mv, .ref u0, .ref u1, .ref iz, .int 0, .ref mb, .int mn, .int mpt, .int mbg, .int mwr, .int mwk, .int mlf, .int men]))] ++ ws_3) H := ty_permP hP (ty_ordp (E := [(mo, .inr (11, [.ref mw, .ref ma, .ref mf, .ref m0, .ref m1, .ref mu, .ref mv, .ref u0, .ref u1, .ref iz, .int 0, .ref mb, .int mn, .int mpt, .int mbg, .int mwr, .int mwk, .int mlf, .int men])), (mw, .inl (ct 0, 958, .inl f))]) (E2 := [(mw, .inl (ct 0, 958, .inl f)), (mo, .inr (11, [.ref mw, .ref ma, .ref mf, .ref m0, .ref m1, .ref mu, .ref mv, .ref u0, .ref u1, .ref iz, .int 0, .ref mb, .int mn, .int mpt, .int mbg, .int mwr, .int mwk, .int mlf, .int men]))]) (n := 2) [1, 0] rfl rfl (by decide))
    have hD : va_D A ([(mw, .inl (ct 0, 958, .inl f)), (mo, .inr (11, [.ref mw, .ref ma, .ref mf, .ref m0, .ref m1, .ref mu, .ref mv, .ref u0, .ref u1, .ref iz, .int 0, .ref mb, .int mn, .int mpt, .int mbg, .int mwr, .int mwk, .int mlf, .int men]))] ++ ws_3) := ty_permD hD (ty_ordp (E := [(mo, .inr (11, [.ref mw, .ref ma, .ref mf, .ref m0, .ref m1, .ref mu, .ref mv, .ref u0, .ref u1, .ref iz, .int 0, .ref mb, .int mn, .int mpt, .int mbg, .int mwr, .int mwk, .int mlf, .int men])), (mw, .inl (ct 0, 958, .inl f))]) (E2 := [(mw, .inl (ct 0, 958, .inl f)), (mo, .inr (11, [.ref mw, .ref ma, .ref mf, .ref m0, .ref m1, .ref mu, .ref mv, .ref u0, .ref u1, .ref iz, .int 0, .ref mb, .int mn, .int mpt, .int mbg, .int mwr, .int mwk, .int mlf, .int men]))]) (n := 2) [1, 0] rfl rfl (by decide))
    refine ty_ki (wr := [(mw, .inl (ct 0, 958, .inl f))]) (wc := ([(mo, .inr (11, [.ref mw, .ref ma, .ref mf, .ref m0, .ref m1, .ref mu, .ref mv, .ref u0, .ref u1, .ref iz, .int 0, .ref mb, .int mn, .int mpt, .int mbg, .int mwr, .int mwk, .int mlf, .int men]))] ++ ws_3)) (va_runV (As := [.int 0, .int 1]) (rest := []) ⟨hx, hb, hml, hown, hts⟩ (m_X11_throwsIf l D ct S ws_3 mo mw ma mf m0 m1 mu mv u0 u1 iz mb (0 : Int32) mn mpt mbg mwr mwk mlf men (0 : Int32) (1 : Int32) _ hT h_mu h_mv h_u0 h_u1 (by decide)) (cm_V 2 hts kc_X11_throwsIf ki_RX11 kl_RX11_328 kv_X11_throwsIf kx_X11_throwsIf kd_X11_throwsIf ⟨Nat.le_of_ble_eq_true rfl, Nat.le_of_ble_eq_true rfl⟩) (ty_preE (wr := [(mw, .inl (ct 0, 958, .inl f))]) (wc := ([(mo, .inr (11, [.ref mw, .ref ma, .ref mf, .ref m0, .ref m1, .ref mu, .ref mv, .ref u0, .ref u1, .ref iz, .int 0, .ref mb, .int mn, .int mpt, .int mbg, .int mwr, .int mwk, .int mlf, .int men]))] ++ ws_3)) (ci := 11) (q0 := 1) hP hK hD hS hA hX rfl rfl) rfl rfl hl.1 rfl (lv_room (Nat.le_of_ble_eq_true rfl)) dX11_advance_24 ⟨Nat.le_of_ble_eq_true rfl, Nat.le_of_ble_eq_true rfl⟩) hP hD hS hA (fun r_5 u H locs hw_6 hP hD hS => ?_)
    obtain ⟨ws_7, th1_8⟩ := u
    obtain ⟨hT, hp_9⟩ := hw_6
    have hp_9 : ((r_5 = 0 ∧ (0 : Int32) = 0) ∨ r_5 = 1) := hp_9
    have hP : va_P D vwCl ([(mw, .inl (ct 0, 958, .inl f)), (mo, .inr (11, [.ref mw, .ref ma, .ref mf, .ref m0, .ref m1, .ref mu, .ref mv, .ref u0, .ref u1, .ref iz, .int th1_8, .ref mb, .int mn, .int mpt, .int mbg, .int mwr, .int mwk, .int mlf, .int men]))] ++ ws_7) H := hP
    have hD : va_D A ([(mw, .inl (ct 0, 958, .inl f)), (mo, .inr (11, [.ref mw, .ref ma, .ref mf, .ref m0, .ref m1, .ref mu, .ref mv, .ref u0, .ref u1, .ref iz, .int th1_8, .ref mb, .int mn, .int mpt, .int mbg, .int mwr, .int mwk, .int mlf, .int men]))] ++ ws_7) := hD
    rcases hp_9 with ⟨rfl, hz_10⟩ | rfl
    · refine lv_if_eq (tgt := 32) hx hb dX11_advance_27 (by decide) (fun _ => ?_) (fun hc => absurd (by decide) hc)
      refine lv_aload_n hx hb dX11_advance_32 rfl (lv_at hl 0 rfl) ?_
      refine va_get (v := .ref mw) (D := D) (ci := 11) (C := RX11) (T := TX11) (N := 19) hx hb hts in_X11 hown hK hP 1 rfl rfl 0 (by decide) (hts _ kl_RX11_9) (fun _ h9 => h9) rfl dX11_advance_33 ?_
      refine lv_bipush (v := 8) hx hb dX11_advance_36 (by decide) ?_
      refine va_iald hx hb hK hP 0 0 rfl rfl (cm_vin (by decide)) dX11_advance_38 ?_
      refine cm_cst (y := (f 8)) (by first | rfl | decide +kernel) ?_
      refine lv_iload_n hx hb dX11_advance_39 rfl (lv_at hl 1 rfl) ?_
      refine lv_iadd hx hb dX11_advance_40 ?_
      refine lv_topi (fun x_11 _ => ?_)
      refine lv_ldcw hx hb hown (hts _ kl_RX11_340) dX11_advance_41 ?_
      refine lv_icmp_le (tgt := 50) hx hb dX11_advance_44 (by decide) (fun hc_12 => ?_) (fun hc_12 => ?_)
      · refine lv_aload_n hx hb dX11_advance_50 rfl (lv_at hl 0 rfl) ?_
        refine lv_iconst (v := 0) hx hb dX11_advance_51 (by decide) ?_
        refine va_put (v := .int 0) (ty := .int) (D := D) (ci := 11) (C := RX11) (T := TX11) (N := 19) hx hb hts in_X11 tyX11 tyX11_ok nmX11 hown hK hP hD hS 1 rfl rfl 18 (by decide) (hts _ kl_RX11_300) (fun _ h9 => h9) rfl (by decide +kernel) rfl rfl (Nat.le_of_ble_eq_true rfl) dX11_advance_52 (fun H locs hP hD hS => ?_)
        have hP : va_P D vwCl ([(mw, .inl (ct 0, 958, .inl f)), (mo, .inr (11, [.ref mw, .ref ma, .ref mf, .ref m0, .ref m1, .ref mu, .ref mv, .ref u0, .ref u1, .ref iz, .int th1_8, .ref mb, .int mn, .int mpt, .int mbg, .int mwr, .int mwk, .int mlf, .int 0]))] ++ ws_7) H := hP
        have hD : va_D A ([(mw, .inl (ct 0, 958, .inl f)), (mo, .inr (11, [.ref mw, .ref ma, .ref mf, .ref m0, .ref m1, .ref mu, .ref mv, .ref u0, .ref u1, .ref iz, .int th1_8, .ref mb, .int mn, .int mpt, .int mbg, .int mwr, .int mwk, .int mlf, .int 0]))] ++ ws_7) := hD
        refine lv_iconst (v := 0) hx hb dX11_advance_55 (by decide) ?_
        refine lv_istore_n (lv' := [(2, .int 0), (0, .ref mo), (1, .int p1)]) hx hb dX11_advance_56 rfl hl (by decide) rfl (fun ls hl => ?_)
        refine ty_loop (I := fun μ H locs ls => ∃ (ws : va_W) (y_13 : Int32) (y_14 : Int32) (f_15 : Nat → Int32), μ = (2147483648 - y_13.toInt).toNat ∧ ty_W ct S ws ∧ va_P D vwCl ([(mw, .inl (ct 0, 958, .inl f_15)), (mo, .inr (11, [.ref mw, .ref ma, .ref mf, .ref m0, .ref m1, .ref mu, .ref mv, .ref u0, .ref u1, .ref iz, .int th1_8, .ref mb, .int mn, .int mpt, .int mbg, .int mwr, .int mwk, .int mlf, .int y_14]))] ++ ws) H ∧ va_D A ([(mw, .inl (ct 0, 958, .inl f_15)), (mo, .inr (11, [.ref mw, .ref ma, .ref mf, .ref m0, .ref m1, .ref mu, .ref mv, .ref u0, .ref u1, .ref iz, .int th1_8, .ref mb, .int mn, .int mpt, .int mbg, .int mwr, .int mwk, .int mlf, .int y_14]))] ++ ws) ∧ va_S A s.heap H locs ∧ lv_has ls 3 [(0, .ref mo), (1, .int p1), (2, .int y_13)] ∧ rf_R G (-1) f_15) ⟨_, ws_7, (0 : Int32), (0 : Int32), f, rfl, hT, hP, hD, hS, (lv_sub hl [1, 2, 0] rfl), hR⟩ (fun μ H locs ls hI ih_57 => ?_)
        obtain ⟨ws, y_13, y_14, f_15, rfl, hT, hP, hD, hS, hl, hR_57⟩ := hI
        refine lv_iload_n hx hb dX11_advance_57 rfl (lv_at hl 2 rfl) ?_
        refine lv_iload_n hx hb dX11_advance_58 rfl (lv_at hl 1 rfl) ?_
        refine lv_icmp_ge (tgt := 72) hx hb dX11_advance_59 (by decide) (fun hc_16 => ?_) (fun hc_16 => ?_)
        · refine lv_aload_n hx hb dX11_advance_72 rfl (lv_at hl 0 rfl) ?_
          refine va_get (v := .int y_14) (D := D) (ci := 11) (C := RX11) (T := TX11) (N := 19) hx hb hts in_X11 hown hK hP 1 rfl rfl 18 (by decide) (hts _ kl_RX11_300) (fun _ h9 => h9) rfl dX11_advance_73 ?_
          have hP : va_P D vwCl ([(mo, .inr (11, [.ref mw, .ref ma, .ref mf, .ref m0, .ref m1, .ref mu, .ref mv, .ref u0, .ref u1, .ref iz, .int th1_8, .ref mb, .int mn, .int mpt, .int mbg, .int mwr, .int mwk, .int mlf, .int y_14])), (mw, .inl (ct 0, 958, .inl f_15))] ++ ws) H := ty_permP hP (ty_ordp (E := [(mw, .inl (ct 0, 958, .inl f_15)), (mo, .inr (11, [.ref mw, .ref ma, .ref mf, .ref m0, .ref m1, .ref mu, .ref mv, .ref u0, .ref u1, .ref iz, .int th1_8, .ref mb, .int mn, .int mpt, .int mbg, .int mwr, .int mwk, .int mlf, .int y_14]))]) (E2 := [(mo, .inr (11, [.ref mw, .ref ma, .ref mf, .ref m0, .ref m1, .ref mu, .ref mv, .ref u0, .ref u1, .ref iz, .int th1_8, .ref mb, .int mn, .int mpt, .int mbg, .int mwr, .int mwk, .int mlf, .int y_14])), (mw, .inl (ct 0, 958, .inl f_15))]) (n := 2) [1, 0] rfl rfl (by decide))
          have hD : va_D A ([(mo, .inr (11, [.ref mw, .ref ma, .ref mf, .ref m0, .ref m1, .ref mu, .ref mv, .ref u0, .ref u1, .ref iz, .int th1_8, .ref mb, .int mn, .int mpt, .int mbg, .int mwr, .int mwk, .int mlf, .int y_14])), (mw, .inl (ct 0, 958, .inl f_15))] ++ ws) := ty_permD hD (ty_ordp (E := [(mw, .inl (ct 0, 958, .inl f_15)), (mo, .inr (11, [.ref mw, .ref ma, .ref mf, .ref m0, .ref m1, .ref mu, .ref mv, .ref u0, .ref u1, .ref iz, .int th1_8, .ref mb, .int mn, .int mpt, .int mbg, .int mwr, .int mwk, .int mlf, .int y_14]))]) (E2 := [(mo, .inr (11, [.ref mw, .ref ma, .ref mf, .ref m0, .ref m1, .ref mu, .ref mv, .ref u0, .ref u1, .ref iz, .int th1_8, .ref mb, .int mn, .int mpt, .int mbg, .int mwr, .int mwk, .int mlf, .int y_14])), (mw, .inl (ct 0, 958, .inl f_15))]) (n := 2) [1, 0] rfl rfl (by decide))
          exact W.iret (v := y_14) hx hb hr (fun t ht hW => ⟨⟨y_14, (ws, y_14, th1_8, f_15), rfl, ⟨hT, hR_57⟩, by rw [ht]; exact hP, by rw [hAe]; exact hD⟩, hS.F ht⟩) hS.2.2 dX11_advance_76
        · refine lv_aload_n hx hb dX11_advance_62 rfl (lv_at hl 0 rfl) ?_
          have hP : va_P D vwCl ([(mo, .inr (11, [.ref mw, .ref ma, .ref mf, .ref m0, .ref m1, .ref mu, .ref mv, .ref u0, .ref u1, .ref iz, .int th1_8, .ref mb, .int mn, .int mpt, .int mbg, .int mwr, .int mwk, .int mlf, .int y_14])), (mw, .inl (ct 0, 958, .inl f_15))] ++ ws) H := ty_permP hP (ty_ordp (E := [(mw, .inl (ct 0, 958, .inl f_15)), (mo, .inr (11, [.ref mw, .ref ma, .ref mf, .ref m0, .ref m1, .ref mu, .ref mv, .ref u0, .ref u1, .ref iz, .int th1_8, .ref mb, .int mn, .int mpt, .int mbg, .int mwr, .int mwk, .int mlf, .int y_14]))]) (E2 := [(mo, .inr (11, [.ref mw, .ref ma, .ref mf, .ref m0, .ref m1, .ref mu, .ref mv, .ref u0, .ref u1, .ref iz, .int th1_8, .ref mb, .int mn, .int mpt, .int mbg, .int mwr, .int mwk, .int mlf, .int y_14])), (mw, .inl (ct 0, 958, .inl f_15))]) (n := 2) [1, 0] rfl rfl (by decide))
          have hD : va_D A ([(mo, .inr (11, [.ref mw, .ref ma, .ref mf, .ref m0, .ref m1, .ref mu, .ref mv, .ref u0, .ref u1, .ref iz, .int th1_8, .ref mb, .int mn, .int mpt, .int mbg, .int mwr, .int mwk, .int mlf, .int y_14])), (mw, .inl (ct 0, 958, .inl f_15))] ++ ws) := ty_permD hD (ty_ordp (E := [(mw, .inl (ct 0, 958, .inl f_15)), (mo, .inr (11, [.ref mw, .ref ma, .ref mf, .ref m0, .ref m1, .ref mu, .ref mv, .ref u0, .ref u1, .ref iz, .int th1_8, .ref mb, .int mn, .int mpt, .int mbg, .int mwr, .int mwk, .int mlf, .int y_14]))]) (E2 := [(mo, .inr (11, [.ref mw, .ref ma, .ref mf, .ref m0, .ref m1, .ref mu, .ref mv, .ref u0, .ref u1, .ref iz, .int th1_8, .ref mb, .int mn, .int mpt, .int mbg, .int mwr, .int mwk, .int mlf, .int y_14])), (mw, .inl (ct 0, 958, .inl f_15))]) (n := 2) [1, 0] rfl rfl (by decide))
          refine ty_kv (wr := []) (wc := ([(mo, .inr (11, [.ref mw, .ref ma, .ref mf, .ref m0, .ref m1, .ref mu, .ref mv, .ref u0, .ref u1, .ref iz, .int th1_8, .ref mb, .int mn, .int mpt, .int mbg, .int mwr, .int mwk, .int mlf, .int y_14])), (mw, .inl (ct 0, 958, .inl f_15))] ++ ws)) (va_runV (As := []) (rest := []) ⟨hx, hb, hml, hown, hts⟩ (m_X11_ticks l D ct S ws mo mw ma mf m0 m1 mu mv u0 u1 iz mb th1_8 mn mpt mbg mwr mwk mlf y_14 f_15 G _ hT h_mu h_mv h_u0 h_u1 hR_57) (cm_V 0 hts kc_X11_ticks ki_RX11 kl_RX11_341 kv_X11_ticks kx_X11_ticks kd_X11_ticks ⟨Nat.le_of_ble_eq_true rfl, Nat.le_of_ble_eq_true rfl⟩) (ty_preE (wr := []) (wc := ([(mo, .inr (11, [.ref mw, .ref ma, .ref mf, .ref m0, .ref m1, .ref mu, .ref mv, .ref u0, .ref u1, .ref iz, .int th1_8, .ref mb, .int mn, .int mpt, .int mbg, .int mwr, .int mwk, .int mlf, .int y_14])), (mw, .inl (ct 0, 958, .inl f_15))] ++ ws)) (ci := 11) (q0 := 0) hP hK hD hS hA hX rfl rfl) rfl rfl hl.1 rfl (lv_room (Nat.le_of_ble_eq_true rfl)) dX11_advance_63 ⟨Nat.le_of_ble_eq_true rfl, Nat.le_of_ble_eq_true rfl⟩) hP hD hS hA (fun u H locs hw_18 hP hD hS => ?_)
          obtain ⟨ws_19, men1_20, f1_21⟩ := u
          obtain ⟨hT, hp_22⟩ := hw_18
          have hp_22 : rf_R G (-1) f1_21 := hp_22
          have hR_23 := hp_22
          have hP : va_P D vwCl ([(mo, .inr (11, [.ref mw, .ref ma, .ref mf, .ref m0, .ref m1, .ref mu, .ref mv, .ref u0, .ref u1, .ref iz, .int th1_8, .ref mb, .int mn, .int mpt, .int mbg, .int mwr, .int mwk, .int mlf, .int men1_20])), (mw, .inl (ct 0, 958, .inl f1_21))] ++ ws_19) H := hP
          have hD : va_D A ([(mo, .inr (11, [.ref mw, .ref ma, .ref mf, .ref m0, .ref m1, .ref mu, .ref mv, .ref u0, .ref u1, .ref iz, .int th1_8, .ref mb, .int mn, .int mpt, .int mbg, .int mwr, .int mwk, .int mlf, .int men1_20])), (mw, .inl (ct 0, 958, .inl f1_21))] ++ ws_19) := hD
          refine lv_iinc (v := (y_13 + Int32.ofInt 1)) (lv' := [(2, .int (y_13 + Int32.ofInt 1)), (0, .ref mo), (1, .int p1)]) hx hb dX11_advance_66 hl (k := 2) rfl rfl (by decide) rfl (fun ls hl => ?_)
          refine lv_goto (tgt := 57) hx hb dX11_advance_69 (by decide) ?_
          have hP : va_P D vwCl ([(mw, .inl (ct 0, 958, .inl f1_21)), (mo, .inr (11, [.ref mw, .ref ma, .ref mf, .ref m0, .ref m1, .ref mu, .ref mv, .ref u0, .ref u1, .ref iz, .int th1_8, .ref mb, .int mn, .int mpt, .int mbg, .int mwr, .int mwk, .int mlf, .int men1_20]))] ++ ws_19) H := ty_permP hP (ty_ordp (E := [(mo, .inr (11, [.ref mw, .ref ma, .ref mf, .ref m0, .ref m1, .ref mu, .ref mv, .ref u0, .ref u1, .ref iz, .int th1_8, .ref mb, .int mn, .int mpt, .int mbg, .int mwr, .int mwk, .int mlf, .int men1_20])), (mw, .inl (ct 0, 958, .inl f1_21))]) (E2 := [(mw, .inl (ct 0, 958, .inl f1_21)), (mo, .inr (11, [.ref mw, .ref ma, .ref mf, .ref m0, .ref m1, .ref mu, .ref mv, .ref u0, .ref u1, .ref iz, .int th1_8, .ref mb, .int mn, .int mpt, .int mbg, .int mwr, .int mwk, .int mlf, .int men1_20]))]) (n := 2) [1, 0] rfl rfl (by decide))
          have hD : va_D A ([(mw, .inl (ct 0, 958, .inl f1_21)), (mo, .inr (11, [.ref mw, .ref ma, .ref mf, .ref m0, .ref m1, .ref mu, .ref mv, .ref u0, .ref u1, .ref iz, .int th1_8, .ref mb, .int mn, .int mpt, .int mbg, .int mwr, .int mwk, .int mlf, .int men1_20]))] ++ ws_19) := ty_permD hD (ty_ordp (E := [(mo, .inr (11, [.ref mw, .ref ma, .ref mf, .ref m0, .ref m1, .ref mu, .ref mv, .ref u0, .ref u1, .ref iz, .int th1_8, .ref mb, .int mn, .int mpt, .int mbg, .int mwr, .int mwk, .int mlf, .int men1_20])), (mw, .inl (ct 0, 958, .inl f1_21))]) (E2 := [(mw, .inl (ct 0, 958, .inl f1_21)), (mo, .inr (11, [.ref mw, .ref ma, .ref mf, .ref m0, .ref m1, .ref mu, .ref mv, .ref u0, .ref u1, .ref iz, .int th1_8, .ref mb, .int mn, .int mpt, .int mbg, .int mwr, .int mwk, .int mlf, .int men1_20]))]) (n := 2) [1, 0] rfl rfl (by decide))
          exact ih_57 _ _ _ _ (ty_inc (cm_lt hc_16)) ⟨ws_19, (y_13 + Int32.ofInt 1), men1_20, f1_21, rfl, hT, hP, hD, hS, (lv_sub hl [1, 2, 0] rfl), hR_23⟩
      · refine lv_bipush (v := (-2)) hx hb dX11_advance_47 (by decide) ?_
        have hP : va_P D vwCl ([(mo, .inr (11, [.ref mw, .ref ma, .ref mf, .ref m0, .ref m1, .ref mu, .ref mv, .ref u0, .ref u1, .ref iz, .int th1_8, .ref mb, .int mn, .int mpt, .int mbg, .int mwr, .int mwk, .int mlf, .int men])), (mw, .inl (ct 0, 958, .inl f))] ++ ws_7) H := ty_permP hP (ty_ordp (E := [(mw, .inl (ct 0, 958, .inl f)), (mo, .inr (11, [.ref mw, .ref ma, .ref mf, .ref m0, .ref m1, .ref mu, .ref mv, .ref u0, .ref u1, .ref iz, .int th1_8, .ref mb, .int mn, .int mpt, .int mbg, .int mwr, .int mwk, .int mlf, .int men]))]) (E2 := [(mo, .inr (11, [.ref mw, .ref ma, .ref mf, .ref m0, .ref m1, .ref mu, .ref mv, .ref u0, .ref u1, .ref iz, .int th1_8, .ref mb, .int mn, .int mpt, .int mbg, .int mwr, .int mwk, .int mlf, .int men])), (mw, .inl (ct 0, 958, .inl f))]) (n := 2) [1, 0] rfl rfl (by decide))
        have hD : va_D A ([(mo, .inr (11, [.ref mw, .ref ma, .ref mf, .ref m0, .ref m1, .ref mu, .ref mv, .ref u0, .ref u1, .ref iz, .int th1_8, .ref mb, .int mn, .int mpt, .int mbg, .int mwr, .int mwk, .int mlf, .int men])), (mw, .inl (ct 0, 958, .inl f))] ++ ws_7) := ty_permD hD (ty_ordp (E := [(mw, .inl (ct 0, 958, .inl f)), (mo, .inr (11, [.ref mw, .ref ma, .ref mf, .ref m0, .ref m1, .ref mu, .ref mv, .ref u0, .ref u1, .ref iz, .int th1_8, .ref mb, .int mn, .int mpt, .int mbg, .int mwr, .int mwk, .int mlf, .int men]))]) (E2 := [(mo, .inr (11, [.ref mw, .ref ma, .ref mf, .ref m0, .ref m1, .ref mu, .ref mv, .ref u0, .ref u1, .ref iz, .int th1_8, .ref mb, .int mn, .int mpt, .int mbg, .int mwr, .int mwk, .int mlf, .int men])), (mw, .inl (ct 0, 958, .inl f))]) (n := 2) [1, 0] rfl rfl (by decide))
        exact W.iret (v := (-2)) hx hb hr (fun t ht hW => ⟨⟨(-2), (ws_7, men, th1_8, f), rfl, ⟨hT, hR⟩, by rw [ht]; exact hP, by rw [hAe]; exact hD⟩, hS.F ht⟩) hS.2.2 dX11_advance_49
    · refine lv_if_eq (tgt := 32) hx hb dX11_advance_27 (by decide) (fun hc => absurd hc (by decide)) (fun _ => ?_)
      refine lv_iconst (v := 0) hx hb dX11_advance_30 (by decide) ?_
      have hP : va_P D vwCl ([(mo, .inr (11, [.ref mw, .ref ma, .ref mf, .ref m0, .ref m1, .ref mu, .ref mv, .ref u0, .ref u1, .ref iz, .int th1_8, .ref mb, .int mn, .int mpt, .int mbg, .int mwr, .int mwk, .int mlf, .int men])), (mw, .inl (ct 0, 958, .inl f))] ++ ws_7) H := ty_permP hP (ty_ordp (E := [(mw, .inl (ct 0, 958, .inl f)), (mo, .inr (11, [.ref mw, .ref ma, .ref mf, .ref m0, .ref m1, .ref mu, .ref mv, .ref u0, .ref u1, .ref iz, .int th1_8, .ref mb, .int mn, .int mpt, .int mbg, .int mwr, .int mwk, .int mlf, .int men]))]) (E2 := [(mo, .inr (11, [.ref mw, .ref ma, .ref mf, .ref m0, .ref m1, .ref mu, .ref mv, .ref u0, .ref u1, .ref iz, .int th1_8, .ref mb, .int mn, .int mpt, .int mbg, .int mwr, .int mwk, .int mlf, .int men])), (mw, .inl (ct 0, 958, .inl f))]) (n := 2) [1, 0] rfl rfl (by decide))
      have hD : va_D A ([(mo, .inr (11, [.ref mw, .ref ma, .ref mf, .ref m0, .ref m1, .ref mu, .ref mv, .ref u0, .ref u1, .ref iz, .int th1_8, .ref mb, .int mn, .int mpt, .int mbg, .int mwr, .int mwk, .int mlf, .int men])), (mw, .inl (ct 0, 958, .inl f))] ++ ws_7) := ty_permD hD (ty_ordp (E := [(mw, .inl (ct 0, 958, .inl f)), (mo, .inr (11, [.ref mw, .ref ma, .ref mf, .ref m0, .ref m1, .ref mu, .ref mv, .ref u0, .ref u1, .ref iz, .int th1_8, .ref mb, .int mn, .int mpt, .int mbg, .int mwr, .int mwk, .int mlf, .int men]))]) (E2 := [(mo, .inr (11, [.ref mw, .ref ma, .ref mf, .ref m0, .ref m1, .ref mu, .ref mv, .ref u0, .ref u1, .ref iz, .int th1_8, .ref mb, .int mn, .int mpt, .int mbg, .int mwr, .int mwk, .int mlf, .int men])), (mw, .inl (ct 0, 958, .inl f))]) (n := 2) [1, 0] rfl rfl (by decide))
      exact W.iret (v := 0) hx hb hr (fun t ht hW => ⟨⟨0, (ws_7, men, th1_8, f), rfl, ⟨hT, hR⟩, by rw [ht]; exact hP, by rw [hAe]; exact hD⟩, hS.F ht⟩) hS.2.2 dX11_advance_31
  · refine lv_iconst (v := 1) hx hb dX11_advance_18 (by decide) ?_
    refine lv_goto (tgt := 23) hx hb dX11_advance_19 (by decide) ?_
    refine lv_iconst (v := 1) hx hb dX11_advance_23 (by decide) ?_
    have hP : va_P D vwCl ([(mw, .inl (ct 0, 958, .inl f)), (mo, .inr (11, [.ref mw, .ref ma, .ref mf, .ref m0, .ref m1, .ref mu, .ref mv, .ref u0, .ref u1, .ref iz, .int 0, .ref mb, .int mn, .int mpt, .int mbg, .int mwr, .int mwk, .int mlf, .int men]))] ++ ws_3) H := ty_permP hP (ty_ordp (E := [(mo, .inr (11, [.ref mw, .ref ma, .ref mf, .ref m0, .ref m1, .ref mu, .ref mv, .ref u0, .ref u1, .ref iz, .int 0, .ref mb, .int mn, .int mpt, .int mbg, .int mwr, .int mwk, .int mlf, .int men])), (mw, .inl (ct 0, 958, .inl f))]) (E2 := [(mw, .inl (ct 0, 958, .inl f)), (mo, .inr (11, [.ref mw, .ref ma, .ref mf, .ref m0, .ref m1, .ref mu, .ref mv, .ref u0, .ref u1, .ref iz, .int 0, .ref mb, .int mn, .int mpt, .int mbg, .int mwr, .int mwk, .int mlf, .int men]))]) (n := 2) [1, 0] rfl rfl (by decide))
    have hD : va_D A ([(mw, .inl (ct 0, 958, .inl f)), (mo, .inr (11, [.ref mw, .ref ma, .ref mf, .ref m0, .ref m1, .ref mu, .ref mv, .ref u0, .ref u1, .ref iz, .int 0, .ref mb, .int mn, .int mpt, .int mbg, .int mwr, .int mwk, .int mlf, .int men]))] ++ ws_3) := ty_permD hD (ty_ordp (E := [(mo, .inr (11, [.ref mw, .ref ma, .ref mf, .ref m0, .ref m1, .ref mu, .ref mv, .ref u0, .ref u1, .ref iz, .int 0, .ref mb, .int mn, .int mpt, .int mbg, .int mwr, .int mwk, .int mlf, .int men])), (mw, .inl (ct 0, 958, .inl f))]) (E2 := [(mw, .inl (ct 0, 958, .inl f)), (mo, .inr (11, [.ref mw, .ref ma, .ref mf, .ref m0, .ref m1, .ref mu, .ref mv, .ref u0, .ref u1, .ref iz, .int 0, .ref mb, .int mn, .int mpt, .int mbg, .int mwr, .int mwk, .int mlf, .int men]))]) (n := 2) [1, 0] rfl rfl (by decide))
    refine ty_ki (wr := [(mw, .inl (ct 0, 958, .inl f))]) (wc := ([(mo, .inr (11, [.ref mw, .ref ma, .ref mf, .ref m0, .ref m1, .ref mu, .ref mv, .ref u0, .ref u1, .ref iz, .int 0, .ref mb, .int mn, .int mpt, .int mbg, .int mwr, .int mwk, .int mlf, .int men]))] ++ ws_3)) (va_runV (As := [.int 1, .int 1]) (rest := []) ⟨hx, hb, hml, hown, hts⟩ (m_X11_throwsIf l D ct S ws_3 mo mw ma mf m0 m1 mu mv u0 u1 iz mb (0 : Int32) mn mpt mbg mwr mwk mlf men (1 : Int32) (1 : Int32) _ hT h_mu h_mv h_u0 h_u1 (by decide)) (cm_V 2 hts kc_X11_throwsIf ki_RX11 kl_RX11_328 kv_X11_throwsIf kx_X11_throwsIf kd_X11_throwsIf ⟨Nat.le_of_ble_eq_true rfl, Nat.le_of_ble_eq_true rfl⟩) (ty_preE (wr := [(mw, .inl (ct 0, 958, .inl f))]) (wc := ([(mo, .inr (11, [.ref mw, .ref ma, .ref mf, .ref m0, .ref m1, .ref mu, .ref mv, .ref u0, .ref u1, .ref iz, .int 0, .ref mb, .int mn, .int mpt, .int mbg, .int mwr, .int mwk, .int mlf, .int men]))] ++ ws_3)) (ci := 11) (q0 := 1) hP hK hD hS hA hX rfl rfl) rfl rfl hl.1 rfl (lv_room (Nat.le_of_ble_eq_true rfl)) dX11_advance_24 ⟨Nat.le_of_ble_eq_true rfl, Nat.le_of_ble_eq_true rfl⟩) hP hD hS hA (fun r_25 u H locs hw_26 hP hD hS => ?_)
    obtain ⟨ws_27, th1_28⟩ := u
    obtain ⟨hT, hp_29⟩ := hw_26
    have hp_29 : ((r_25 = 0 ∧ (1 : Int32) = 0) ∨ r_25 = 1) := hp_29
    have hP : va_P D vwCl ([(mw, .inl (ct 0, 958, .inl f)), (mo, .inr (11, [.ref mw, .ref ma, .ref mf, .ref m0, .ref m1, .ref mu, .ref mv, .ref u0, .ref u1, .ref iz, .int th1_28, .ref mb, .int mn, .int mpt, .int mbg, .int mwr, .int mwk, .int mlf, .int men]))] ++ ws_27) H := hP
    have hD : va_D A ([(mw, .inl (ct 0, 958, .inl f)), (mo, .inr (11, [.ref mw, .ref ma, .ref mf, .ref m0, .ref m1, .ref mu, .ref mv, .ref u0, .ref u1, .ref iz, .int th1_28, .ref mb, .int mn, .int mpt, .int mbg, .int mwr, .int mwk, .int mlf, .int men]))] ++ ws_27) := hD
    rcases hp_29 with ⟨rfl, hz_30⟩ | rfl
    · exact absurd hz_30 (by decide)
    · refine lv_if_eq (tgt := 32) hx hb dX11_advance_27 (by decide) (fun hc => absurd hc (by decide)) (fun _ => ?_)
      refine lv_iconst (v := 0) hx hb dX11_advance_30 (by decide) ?_
      have hP : va_P D vwCl ([(mo, .inr (11, [.ref mw, .ref ma, .ref mf, .ref m0, .ref m1, .ref mu, .ref mv, .ref u0, .ref u1, .ref iz, .int th1_28, .ref mb, .int mn, .int mpt, .int mbg, .int mwr, .int mwk, .int mlf, .int men])), (mw, .inl (ct 0, 958, .inl f))] ++ ws_27) H := ty_permP hP (ty_ordp (E := [(mw, .inl (ct 0, 958, .inl f)), (mo, .inr (11, [.ref mw, .ref ma, .ref mf, .ref m0, .ref m1, .ref mu, .ref mv, .ref u0, .ref u1, .ref iz, .int th1_28, .ref mb, .int mn, .int mpt, .int mbg, .int mwr, .int mwk, .int mlf, .int men]))]) (E2 := [(mo, .inr (11, [.ref mw, .ref ma, .ref mf, .ref m0, .ref m1, .ref mu, .ref mv, .ref u0, .ref u1, .ref iz, .int th1_28, .ref mb, .int mn, .int mpt, .int mbg, .int mwr, .int mwk, .int mlf, .int men])), (mw, .inl (ct 0, 958, .inl f))]) (n := 2) [1, 0] rfl rfl (by decide))
      have hD : va_D A ([(mo, .inr (11, [.ref mw, .ref ma, .ref mf, .ref m0, .ref m1, .ref mu, .ref mv, .ref u0, .ref u1, .ref iz, .int th1_28, .ref mb, .int mn, .int mpt, .int mbg, .int mwr, .int mwk, .int mlf, .int men])), (mw, .inl (ct 0, 958, .inl f))] ++ ws_27) := ty_permD hD (ty_ordp (E := [(mw, .inl (ct 0, 958, .inl f)), (mo, .inr (11, [.ref mw, .ref ma, .ref mf, .ref m0, .ref m1, .ref mu, .ref mv, .ref u0, .ref u1, .ref iz, .int th1_28, .ref mb, .int mn, .int mpt, .int mbg, .int mwr, .int mwk, .int mlf, .int men]))]) (E2 := [(mo, .inr (11, [.ref mw, .ref ma, .ref mf, .ref m0, .ref m1, .ref mu, .ref mv, .ref u0, .ref u1, .ref iz, .int th1_28, .ref mb, .int mn, .int mpt, .int mbg, .int mwr, .int mwk, .int mlf, .int men])), (mw, .inl (ct 0, 958, .inl f))]) (n := 2) [1, 0] rfl rfl (by decide))
      exact W.iret (v := 0) hx hb hr (fun t ht hW => ⟨⟨0, (ws_27, men, th1_28, f), rfl, ⟨hT, hR⟩, by rw [ht]; exact hP, by rw [hAe]; exact hD⟩, hS.F ht⟩) hS.2.2 dX11_advance_31
theorem dX11_start_0 : decode cX11_start 0 = .ok (.aload_n 0, 1) := by decide +kernel
theorem dX11_start_1 : decode cX11_start 1 = .ok (.iload_n 1, 1) := by decide +kernel
theorem dX11_start_2 : decode cX11_start 2 = .ok (.iload_n 2, 1) := by decide +kernel
theorem dX11_start_3 : decode cX11_start 3 = .ok (.invokevirtual 347, 3) := by decide +kernel
theorem dX11_start_6 : decode cX11_start 6 = .ok (.ifCond .eq 5, 3) := by decide +kernel
theorem dX11_start_9 : decode cX11_start 9 = .ok (.iconst 0, 1) := by decide +kernel
theorem dX11_start_10 : decode cX11_start 10 = .ok (.ireturn, 1) := by decide +kernel
theorem dX11_start_11 : decode cX11_start 11 = .ok (.aload_n 0, 1) := by decide +kernel
theorem dX11_start_12 : decode cX11_start 12 = .ok (.iload_n 1, 1) := by decide +kernel
theorem dX11_start_13 : decode cX11_start 13 = .ok (.iconst 0, 1) := by decide +kernel
theorem dX11_start_14 : decode cX11_start 14 = .ok (.invokevirtual 350, 3) := by decide +kernel
theorem dX11_start_17 : decode cX11_start 17 = .ok (.ifCond .ne 15, 3) := by decide +kernel
theorem dX11_start_20 : decode cX11_start 20 = .ok (.aload_n 0, 1) := by decide +kernel
theorem dX11_start_21 : decode cX11_start 21 = .ok (.iload_n 1, 1) := by decide +kernel
theorem dX11_start_22 : decode cX11_start 22 = .ok (.iconst 3, 1) := by decide +kernel
theorem dX11_start_23 : decode cX11_start 23 = .ok (.invokevirtual 350, 3) := by decide +kernel
theorem dX11_start_26 : decode cX11_start 26 = .ok (.ifCond .ne 6, 3) := by decide +kernel
theorem dX11_start_29 : decode cX11_start 29 = .ok (.bipush (-3), 2) := by decide +kernel
theorem dX11_start_31 : decode cX11_start 31 = .ok (.ireturn, 1) := by decide +kernel
theorem dX11_start_32 : decode cX11_start 32 = .ok (.aload_n 0, 1) := by decide +kernel
theorem dX11_start_33 : decode cX11_start 33 = .ok (.iload_n 1, 1) := by decide +kernel
theorem dX11_start_34 : decode cX11_start 34 = .ok (.iload_n 2, 1) := by decide +kernel
theorem dX11_start_35 : decode cX11_start 35 = .ok (.invokevirtual 288, 3) := by decide +kernel
theorem dX11_start_38 : decode cX11_start 38 = .ok (.iconst 0, 1) := by decide +kernel
theorem dX11_start_39 : decode cX11_start 39 = .ok (.istore_n 3, 1) := by decide +kernel
theorem dX11_start_40 : decode cX11_start 40 = .ok (.iconst 0, 1) := by decide +kernel
theorem dX11_start_41 : decode cX11_start 41 = .ok (.istore 4, 2) := by decide +kernel
theorem dX11_start_43 : decode cX11_start 43 = .ok (.iload 4, 2) := by decide +kernel
theorem dX11_start_45 : decode cX11_start 45 = .ok (.aload_n 0, 1) := by decide +kernel
theorem dX11_start_46 : decode cX11_start 46 = .ok (.getfield 9, 3) := by decide +kernel
theorem dX11_start_49 : decode cX11_start 49 = .ok (.bipush 9, 2) := by decide +kernel
theorem dX11_start_51 : decode cX11_start 51 = .ok (.iaload, 1) := by decide +kernel
theorem dX11_start_52 : decode cX11_start 52 = .ok (.if_icmp .ge 27, 3) := by decide +kernel
theorem dX11_start_55 : decode cX11_start 55 = .ok (.iload_n 3, 1) := by decide +kernel
theorem dX11_start_56 : decode cX11_start 56 = .ok (.aload_n 0, 1) := by decide +kernel
theorem dX11_start_57 : decode cX11_start 57 = .ok (.iload 4, 2) := by decide +kernel
theorem dX11_start_59 : decode cX11_start 59 = .ok (.iconst 1, 1) := by decide +kernel
theorem dX11_start_60 : decode cX11_start 60 = .ok (.invokevirtual 350, 3) := by decide +kernel
theorem dX11_start_63 : decode cX11_start 63 = .ok (.ifCond .eq 7, 3) := by decide +kernel
theorem dX11_start_66 : decode cX11_start 66 = .ok (.iconst 1, 1) := by decide +kernel
theorem dX11_start_67 : decode cX11_start 67 = .ok (.goto 4, 3) := by decide +kernel
theorem dX11_start_70 : decode cX11_start 70 = .ok (.iconst 0, 1) := by decide +kernel
theorem dX11_start_71 : decode cX11_start 71 = .ok (.iadd, 1) := by decide +kernel
theorem dX11_start_72 : decode cX11_start 72 = .ok (.istore_n 3, 1) := by decide +kernel
theorem dX11_start_73 : decode cX11_start 73 = .ok (.iinc 4 1, 3) := by decide +kernel
theorem dX11_start_76 : decode cX11_start 76 = .ok (.goto (-33), 3) := by decide +kernel
theorem dX11_start_79 : decode cX11_start 79 = .ok (.iload_n 3, 1) := by decide +kernel
theorem dX11_start_80 : decode cX11_start 80 = .ok (.ireturn, 1) := by decide +kernel
set_option maxRecDepth 100000 in
set_option maxHeartbeats 4000000 in
theorem m_X11_start (l : Launch) (D : va_G) (ct : Nat → ClassId) (S : ty_S) (ws : va_W) (mo : Nat) (mw : Nat) (ma : Nat) (mf : Nat) (m0 : Nat) (m1 : Nat) (mu : Nat) (mv : Nat) (u0 : Nat) (u1 : Nat) (iz : Nat) (mb : Nat) (th : Int32) (mn : Int32) (mpt : Int32) (mbg : Int32) (mwr : Int32) (mwk : Int32) (mlf : Int32) (men : Int32) (f : Nat → Int32) (G : Nat → Int32) (p1 : Int32) (p2 : Int32) (sz : Nat) (hT : ty_W ct S ws) (h_mu : S mu = some (.inr (1, 42))) (h_mv : S mv = some (.inr (1, 42))) (h_u0 : S u0 = some (.inr (1, 42))) (h_u1 : S u1 = some (.inr (1, 42))) (hR : rf_R G (-1) f) : Met l yX11_start (ws_ yX11_start cX11_start 5 (some .int)) ({ frames := 3, cells := 0, slots := 0, locals := 72 } : Room) (va_Pc [.ref mo, .int p1, .int p2] (cmP D ct sz ([(mo, .inr (11, [.ref mw, .ref ma, .ref mf, .ref m0, .ref m1, .ref mu, .ref mv, .ref u0, .ref u1, .ref iz, .int th, .ref mb, .int mn, .int mpt, .int mbg, .int mwr, .int mwk, .int mlf, .int men])), (mw, .inl (ct 0, 958, .inl f))] ++ ws))) (va_Qi (fun (r : Int32) (u : va_W × Int32 × (Nat → Int32)) => match u with | (u9, th1, f1) => ty_W ct S u9 ∧ rf_R G (-1) f1) (cmB D ([(mo, .inr (11, [.ref mw, .ref ma, .ref mf, .ref m0, .ref m1, .ref mu, .ref mv, .ref u0, .ref u1, .ref iz, .int th, .ref mb, .int mn, .int mpt, .int mbg, .int mwr, .int mwk, .int mlf, .int men])), (mw, .inl (ct 0, 958, .inl f))] ++ ws) sz (fun (u : va_W × Int32 × (Nat → Int32)) => match u with | (u9, th1, f1) => ([(mo, .inr (11, [.ref mw, .ref ma, .ref mf, .ref m0, .ref m1, .ref mu, .ref mv, .ref u0, .ref u1, .ref iz, .int th1, .ref mb, .int mn, .int mpt, .int mbg, .int mwr, .int mwk, .int mlf, .int men])), (mw, .inl (ct 0, 958, .inl f1))] ++ u9))) (va_A ([(mo, .inr (11, [.ref mw, .ref ma, .ref mf, .ref m0, .ref m1, .ref mu, .ref mv, .ref u0, .ref u1, .ref iz, .int th, .ref mb, .int mn, .int mpt, .int mbg, .int mwr, .int mwk, .int mlf, .int men])), (mw, .inl (ct 0, 958, .inl f))] ++ ws) sz)) 0 0 (va_A ([(mo, .inr (11, [.ref mw, .ref ma, .ref mf, .ref m0, .ref m1, .ref mu, .ref mv, .ref u0, .ref u1, .ref iz, .int th, .ref mb, .int mn, .int mpt, .int mbg, .int mwr, .int mwk, .int mlf, .int men])), (mw, .inl (ct 0, 958, .inl f))] ++ ws) sz) := by
  refine Met.ofW (cc := cX11_start) (maxL := 5) (ret := (some .int)) (by decide) rfl ?_
  intro p e s m args below meth c s₁ B hml hv
  obtain ⟨rfl, hsz, hP, hK, hD0, hX⟩ := hv
  have hx := B.exec
  have hb := B.bytes
  have hr := B.returns
  have hts := ws_all (atoms_spec (ws := ws_ yX11_start cX11_start 5 (some .int)) B.pre)
  have hown : s.vm.findClass RX11 = some m.cls := findClass_of_methodNamed B.named
  have hlocks := B.notSynchronized
  subst hsz
  have hD := hD0.self (sz := s.heap.size)
  generalize hAe : va_A ([(mo, .inr (11, [.ref mw, .ref ma, .ref mf, .ref m0, .ref m1, .ref mu, .ref mv, .ref u0, .ref u1, .ref iz, .int th, .ref mb, .int mn, .int mpt, .int mbg, .int mwr, .int mwk, .int mlf, .int men])), (mw, .inl (ct 0, 958, .inl f))] ++ ws) s.heap.size = A at hD hX ⊢
  have hA : ∀ q : Nat, s.heap.size ≤ q → A q := fun q h => by rw [← hAe]; exact Or.inr h
  have hS : va_S A s.heap s.heap [] := va_S.rf
  have hl := lv_entry ([.ref mo, .int p1, .int p2]) (n := 5) (Nat.le_of_ble_eq_true rfl)
  rw [lg_entry_eq]
  generalize (lg_sl ([.ref mo, .int p1, .int p2]) ++ List.replicate (5 - (lg_sl ([.ref mo, .int p1, .int p2])).length) Slot.unset).toArray = ls at hl ⊢
  have hl : lv_has ls 5 [(0, .ref mo), (1, .int p1), (2, .int p2)] := hl
  refine lv_aload_n hx hb dX11_start_0 rfl (lv_at hl 0 rfl) ?_
  refine lv_iload_n hx hb dX11_start_1 rfl (lv_at hl 1 rfl) ?_
  refine lv_iload_n hx hb dX11_start_2 rfl (lv_at hl 2 rfl) ?_
  refine ty_ki (wr := []) (wc := ([(mo, .inr (11, [.ref mw, .ref ma, .ref mf, .ref m0, .ref m1, .ref mu, .ref mv, .ref u0, .ref u1, .ref iz, .int th, .ref mb, .int mn, .int mpt, .int mbg, .int mwr, .int mwk, .int mlf, .int men])), (mw, .inl (ct 0, 958, .inl f))] ++ ws)) (va_runV (As := [.int p1, .int p2]) (rest := []) ⟨hx, hb, hml, hown, hts⟩ (m_X11_noProgram l D ct S ws mo mw ma mf m0 m1 mu mv u0 u1 iz mb th mn mpt mbg mwr mwk mlf men f G (-1) p1 p2 _ hT h_mu h_mv h_u0 h_u1 hR) (cm_V 2 hts kc_X11_noProgram ki_RX11 kl_RX11_347 kv_X11_noProgram kx_X11_noProgram kd_X11_noProgram ⟨Nat.le_of_ble_eq_true rfl, Nat.le_of_ble_eq_true rfl⟩) (ty_preE (wr := []) (wc := ([(mo, .inr (11, [.ref mw, .ref ma, .ref mf, .ref m0, .ref m1, .ref mu, .ref mv, .ref u0, .ref u1, .ref iz, .int th, .ref mb, .int mn, .int mpt, .int mbg, .int mwr, .int mwk, .int mlf, .int men])), (mw, .inl (ct 0, 958, .inl f))] ++ ws)) (ci := 11) (q0 := 0) hP hK hD hS hA hX rfl rfl) rfl rfl hl.1 rfl (lv_room (Nat.le_of_ble_eq_true rfl)) dX11_start_3 ⟨Nat.le_of_ble_eq_true rfl, Nat.le_of_ble_eq_true rfl⟩) hP hD hS hA (fun r_1 u H locs hw_2 hP hD hS => ?_)
  obtain ⟨ws_3, th1_4⟩ := u
  obtain ⟨hT, hp_5⟩ := hw_2
  have hp_5 : ((r_1 = 0 ∧ (0 ≤ p1.toInt ∧ p1.toInt < (G 9).toInt) ∧ 0 ≤ p2.toInt ∧ p2.toInt < (G 10).toInt) ∨ r_1 = 1) := hp_5
  have hP : va_P D vwCl ([(mo, .inr (11, [.ref mw, .ref ma, .ref mf, .ref m0, .ref m1, .ref mu, .ref mv, .ref u0, .ref u1, .ref iz, .int th1_4, .ref mb, .int mn, .int mpt, .int mbg, .int mwr, .int mwk, .int mlf, .int men])), (mw, .inl (ct 0, 958, .inl f))] ++ ws_3) H := hP
  have hD : va_D A ([(mo, .inr (11, [.ref mw, .ref ma, .ref mf, .ref m0, .ref m1, .ref mu, .ref mv, .ref u0, .ref u1, .ref iz, .int th1_4, .ref mb, .int mn, .int mpt, .int mbg, .int mwr, .int mwk, .int mlf, .int men])), (mw, .inl (ct 0, 958, .inl f))] ++ ws_3) := hD
  rcases hp_5 with ⟨rfl, hz_6⟩ | rfl
  · refine lv_if_eq (tgt := 11) hx hb dX11_start_6 (by decide) (fun _ => ?_) (fun hc => absurd (by decide) hc)
    refine lv_aload_n hx hb dX11_start_11 rfl (lv_at hl 0 rfl) ?_
    refine lv_iload_n hx hb dX11_start_12 rfl (lv_at hl 1 rfl) ?_
    refine lv_iconst (v := 0) hx hb dX11_start_13 (by decide) ?_
    refine ty_ki (wr := []) (wc := ([(mo, .inr (11, [.ref mw, .ref ma, .ref mf, .ref m0, .ref m1, .ref mu, .ref mv, .ref u0, .ref u1, .ref iz, .int th1_4, .ref mb, .int mn, .int mpt, .int mbg, .int mwr, .int mwk, .int mlf, .int men])), (mw, .inl (ct 0, 958, .inl f))] ++ ws_3)) (va_runV (As := [.int p1, .int 0]) (rest := []) ⟨hx, hb, hml, hown, hts⟩ (m_X11_isIn l D ct S ws_3 mo mw ma mf m0 m1 mu mv u0 u1 iz mb th1_4 mn mpt mbg mwr mwk mlf men f G (-1) p1 (0 : Int32) _ hT h_mu h_mv h_u0 h_u1 hR hz_6.1) (cm_V 2 hts kc_X11_isIn ki_RX11 kl_RX11_350 kv_X11_isIn kx_X11_isIn kd_X11_isIn ⟨Nat.le_of_ble_eq_true rfl, Nat.le_of_ble_eq_true rfl⟩) (ty_preE (wr := []) (wc := ([(mo, .inr (11, [.ref mw, .ref ma, .ref mf, .ref m0, .ref m1, .ref mu, .ref mv, .ref u0, .ref u1, .ref iz, .int th1_4, .ref mb, .int mn, .int mpt, .int mbg, .int mwr, .int mwk, .int mlf, .int men])), (mw, .inl (ct 0, 958, .inl f))] ++ ws_3)) (ci := 11) (q0 := 0) hP hK hD hS hA hX rfl rfl) rfl rfl hl.1 rfl (lv_room (Nat.le_of_ble_eq_true rfl)) dX11_start_14 ⟨Nat.le_of_ble_eq_true rfl, Nat.le_of_ble_eq_true rfl⟩) hP hD hS hA (fun r_7 u H locs hw_8 hP hD hS => ?_)
    obtain ⟨ws_9, rfl⟩ : ∃ z, z = u := ⟨_, rfl⟩
    obtain ⟨hT, hp_10⟩ := hw_8
    have hp_10 : ((r_7 = 0 ∧ ¬ rf_of f p1 0 = (0 : Int32)) ∨ (r_7 = 1 ∧ rf_of f p1 0 = (0 : Int32))) := hp_10
    have hP : va_P D vwCl ([(mo, .inr (11, [.ref mw, .ref ma, .ref mf, .ref m0, .ref m1, .ref mu, .ref mv, .ref u0, .ref u1, .ref iz, .int th1_4, .ref mb, .int mn, .int mpt, .int mbg, .int mwr, .int mwk, .int mlf, .int men])), (mw, .inl (ct 0, 958, .inl f))] ++ ws_9) H := hP
    have hD : va_D A ([(mo, .inr (11, [.ref mw, .ref ma, .ref mf, .ref m0, .ref m1, .ref mu, .ref mv, .ref u0, .ref u1, .ref iz, .int th1_4, .ref mb, .int mn, .int mpt, .int mbg, .int mwr, .int mwk, .int mlf, .int men])), (mw, .inl (ct 0, 958, .inl f))] ++ ws_9) := hD
    rcases hp_10 with ⟨rfl, hz_11⟩ | ⟨rfl, hz_12⟩
    · refine lv_if_ne (tgt := 32) hx hb dX11_start_17 (by decide) (fun hc => absurd (by decide) hc) (fun _ => ?_)
      refine lv_aload_n hx hb dX11_start_20 rfl (lv_at hl 0 rfl) ?_
      refine lv_iload_n hx hb dX11_start_21 rfl (lv_at hl 1 rfl) ?_
      refine lv_iconst (v := 3) hx hb dX11_start_22 (by decide) ?_
      refine ty_ki (wr := []) (wc := ([(mo, .inr (11, [.ref mw, .ref ma, .ref mf, .ref m0, .ref m1, .ref mu, .ref mv, .ref u0, .ref u1, .ref iz, .int th1_4, .ref mb, .int mn, .int mpt, .int mbg, .int mwr, .int mwk, .int mlf, .int men])), (mw, .inl (ct 0, 958, .inl f))] ++ ws_9)) (va_runV (As := [.int p1, .int 3]) (rest := []) ⟨hx, hb, hml, hown, hts⟩ (m_X11_isIn l D ct S ws_9 mo mw ma mf m0 m1 mu mv u0 u1 iz mb th1_4 mn mpt mbg mwr mwk mlf men f G (-1) p1 (3 : Int32) _ hT h_mu h_mv h_u0 h_u1 hR hz_6.1) (cm_V 2 hts kc_X11_isIn ki_RX11 kl_RX11_350 kv_X11_isIn kx_X11_isIn kd_X11_isIn ⟨Nat.le_of_ble_eq_true rfl, Nat.le_of_ble_eq_true rfl⟩) (ty_preE (wr := []) (wc := ([(mo, .inr (11, [.ref mw, .ref ma, .ref mf, .ref m0, .ref m1, .ref mu, .ref mv, .ref u0, .ref u1, .ref iz, .int th1_4, .ref mb, .int mn, .int mpt, .int mbg, .int mwr, .int mwk, .int mlf, .int men])), (mw, .inl (ct 0, 958, .inl f))] ++ ws_9)) (ci := 11) (q0 := 0) hP hK hD hS hA hX rfl rfl) rfl rfl hl.1 rfl (lv_room (Nat.le_of_ble_eq_true rfl)) dX11_start_23 ⟨Nat.le_of_ble_eq_true rfl, Nat.le_of_ble_eq_true rfl⟩) hP hD hS hA (fun r_13 u H locs hw_14 hP hD hS => ?_)
      obtain ⟨ws_15, rfl⟩ : ∃ z, z = u := ⟨_, rfl⟩
      obtain ⟨hT, hp_16⟩ := hw_14
      have hp_16 : ((r_13 = 0 ∧ ¬ rf_of f p1 0 = (3 : Int32)) ∨ (r_13 = 1 ∧ rf_of f p1 0 = (3 : Int32))) := hp_16
      have hP : va_P D vwCl ([(mo, .inr (11, [.ref mw, .ref ma, .ref mf, .ref m0, .ref m1, .ref mu, .ref mv, .ref u0, .ref u1, .ref iz, .int th1_4, .ref mb, .int mn, .int mpt, .int mbg, .int mwr, .int mwk, .int mlf, .int men])), (mw, .inl (ct 0, 958, .inl f))] ++ ws_15) H := hP
      have hD : va_D A ([(mo, .inr (11, [.ref mw, .ref ma, .ref mf, .ref m0, .ref m1, .ref mu, .ref mv, .ref u0, .ref u1, .ref iz, .int th1_4, .ref mb, .int mn, .int mpt, .int mbg, .int mwr, .int mwk, .int mlf, .int men])), (mw, .inl (ct 0, 958, .inl f))] ++ ws_15) := hD
      rcases hp_16 with ⟨rfl, hz_17⟩ | ⟨rfl, hz_18⟩
      · refine lv_if_ne (tgt := 32) hx hb dX11_start_26 (by decide) (fun hc => absurd (by decide) hc) (fun _ => ?_)
        refine lv_bipush (v := (-3)) hx hb dX11_start_29 (by decide) ?_
        exact W.iret (v := (-3)) hx hb hr (fun t ht hW => ⟨⟨(-3), (ws_15, th1_4, f), rfl, ⟨hT, hR⟩, by rw [ht]; exact hP, by rw [hAe]; exact hD⟩, hS.F ht⟩) hS.2.2 dX11_start_31
      · refine lv_if_ne (tgt := 32) hx hb dX11_start_26 (by decide) (fun _ => ?_) (fun hc => absurd hc (by decide))
        refine lv_aload_n hx hb dX11_start_32 rfl (lv_at hl 0 rfl) ?_
        refine lv_iload_n hx hb dX11_start_33 rfl (lv_at hl 1 rfl) ?_
        refine lv_iload_n hx hb dX11_start_34 rfl (lv_at hl 2 rfl) ?_
        refine ty_kv (wr := []) (wc := ([(mo, .inr (11, [.ref mw, .ref ma, .ref mf, .ref m0, .ref m1, .ref mu, .ref mv, .ref u0, .ref u1, .ref iz, .int th1_4, .ref mb, .int mn, .int mpt, .int mbg, .int mwr, .int mwk, .int mlf, .int men])), (mw, .inl (ct 0, 958, .inl f))] ++ ws_15)) (va_runV (As := [.int p1, .int p2]) (rest := []) ⟨hx, hb, hml, hown, hts⟩ (m_X11_startsOn l D ct S ws_15 mo mw ma mf m0 m1 mu mv u0 u1 iz mb th1_4 mn mpt mbg mwr mwk mlf men f G (-1) p1 p2 _ hT h_mu h_mv h_u0 h_u1 hR hz_6.1 (Or.inl rfl) hz_6.2) (cm_V 2 hts kc_X11_startsOn ki_RX11 kl_RX11_288 kv_X11_startsOn kx_X11_startsOn kd_X11_startsOn ⟨Nat.le_of_ble_eq_true rfl, Nat.le_of_ble_eq_true rfl⟩) (ty_preE (wr := []) (wc := ([(mo, .inr (11, [.ref mw, .ref ma, .ref mf, .ref m0, .ref m1, .ref mu, .ref mv, .ref u0, .ref u1, .ref iz, .int th1_4, .ref mb, .int mn, .int mpt, .int mbg, .int mwr, .int mwk, .int mlf, .int men])), (mw, .inl (ct 0, 958, .inl f))] ++ ws_15)) (ci := 11) (q0 := 0) hP hK hD hS hA hX rfl rfl) rfl rfl hl.1 rfl (lv_room (Nat.le_of_ble_eq_true rfl)) dX11_start_35 ⟨Nat.le_of_ble_eq_true rfl, Nat.le_of_ble_eq_true rfl⟩) hP hD hS hA (fun u H locs hw_20 hP hD hS => ?_)
        obtain ⟨ws_21, f1_22⟩ := u
        obtain ⟨hT, hp_23⟩ := hw_20
        have hp_23 : rf_R G (-1) f1_22 := hp_23
        have hR_24 := hp_23
        have hP : va_P D vwCl ([(mo, .inr (11, [.ref mw, .ref ma, .ref mf, .ref m0, .ref m1, .ref mu, .ref mv, .ref u0, .ref u1, .ref iz, .int th1_4, .ref mb, .int mn, .int mpt, .int mbg, .int mwr, .int mwk, .int mlf, .int men])), (mw, .inl (ct 0, 958, .inl f1_22))] ++ ws_21) H := hP
        have hD : va_D A ([(mo, .inr (11, [.ref mw, .ref ma, .ref mf, .ref m0, .ref m1, .ref mu, .ref mv, .ref u0, .ref u1, .ref iz, .int th1_4, .ref mb, .int mn, .int mpt, .int mbg, .int mwr, .int mwk, .int mlf, .int men])), (mw, .inl (ct 0, 958, .inl f1_22))] ++ ws_21) := hD
        refine lv_iconst (v := 0) hx hb dX11_start_38 (by decide) ?_
        refine lv_istore_n (lv' := [(3, .int 0), (0, .ref mo), (1, .int p1), (2, .int p2)]) hx hb dX11_start_39 rfl hl (by decide) rfl (fun ls hl => ?_)
        refine lv_iconst (v := 0) hx hb dX11_start_40 (by decide) ?_
        refine lv_istore (lv' := [(4, .int 0), (3, .int 0), (0, .ref mo), (1, .int p1), (2, .int p2)]) hx hb dX11_start_41 hl (by decide) rfl (fun ls hl => ?_)
        refine ty_loop (I := fun μ H locs ls => ∃ (ws : va_W) (y_26 : Int32) (y_27 : Int32), μ = (2147483648 - y_27.toInt).toNat ∧ ty_W ct S ws ∧ va_P D vwCl ([(mo, .inr (11, [.ref mw, .ref ma, .ref mf, .ref m0, .ref m1, .ref mu, .ref mv, .ref u0, .ref u1, .ref iz, .int th1_4, .ref mb, .int mn, .int mpt, .int mbg, .int mwr, .int mwk, .int mlf, .int men])), (mw, .inl (ct 0, 958, .inl f1_22))] ++ ws) H ∧ va_D A ([(mo, .inr (11, [.ref mw, .ref ma, .ref mf, .ref m0, .ref m1, .ref mu, .ref mv, .ref u0, .ref u1, .ref iz, .int th1_4, .ref mb, .int mn, .int mpt, .int mbg, .int mwr, .int mwk, .int mlf, .int men])), (mw, .inl (ct 0, 958, .inl f1_22))] ++ ws) ∧ va_S A s.heap H locs ∧ lv_has ls 5 [(0, .ref mo), (1, .int p1), (2, .int p2), (3, .int y_26), (4, .int y_27)] ∧ 0 ≤ y_27.toInt) ⟨_, ws_21, (0 : Int32), (0 : Int32), rfl, hT, hP, hD, hS, (lv_sub hl [2, 3, 4, 1, 0] rfl), (by decide)⟩ (fun μ H locs ls hI ih_43 => ?_)
        obtain ⟨ws, y_26, y_27, rfl, hT, hP, hD, hS, hl, hex_43⟩ := hI
        refine lv_iload hx hb dX11_start_43 (lv_at hl 4 rfl) ?_
        refine lv_aload_n hx hb dX11_start_45 rfl (lv_at hl 0 rfl) ?_
        refine va_get (v := .ref mw) (D := D) (ci := 11) (C := RX11) (T := TX11) (N := 19) hx hb hts in_X11 hown hK hP 0 rfl rfl 0 (by decide) (hts _ kl_RX11_9) (fun _ h9 => h9) rfl dX11_start_46 ?_
        refine lv_bipush (v := 9) hx hb dX11_start_49 (by decide) ?_
        refine va_iald hx hb hK hP 1 0 rfl rfl (cm_vin (by decide)) dX11_start_51 ?_
        refine cm_cst (y := (f1_22 9)) (by first | rfl | decide +kernel) ?_
        refine lv_icmp_ge (tgt := 79) hx hb dX11_start_52 (by decide) (fun hc_28 => ?_) (fun hc_28 => ?_)
        · refine lv_iload_n hx hb dX11_start_79 rfl (lv_at hl 3 rfl) ?_
          exact W.iret (v := y_26) hx hb hr (fun t ht hW => ⟨⟨y_26, (ws, th1_4, f1_22), rfl, ⟨hT, hR_24⟩, by rw [ht]; exact hP, by rw [hAe]; exact hD⟩, hS.F ht⟩) hS.2.2 dX11_start_80
        · refine lv_iload_n hx hb dX11_start_55 rfl (lv_at hl 3 rfl) ?_
          refine lv_aload_n hx hb dX11_start_56 rfl (lv_at hl 0 rfl) ?_
          refine lv_iload hx hb dX11_start_57 (lv_at hl 4 rfl) ?_
          refine lv_iconst (v := 1) hx hb dX11_start_59 (by decide) ?_
          refine ty_ki (wr := []) (wc := ([(mo, .inr (11, [.ref mw, .ref ma, .ref mf, .ref m0, .ref m1, .ref mu, .ref mv, .ref u0, .ref u1, .ref iz, .int th1_4, .ref mb, .int mn, .int mpt, .int mbg, .int mwr, .int mwk, .int mlf, .int men])), (mw, .inl (ct 0, 958, .inl f1_22))] ++ ws)) (va_runV (As := [.int y_27, .int 1]) (rest := [.int y_26]) ⟨hx, hb, hml, hown, hts⟩ (m_X11_isIn l D ct S ws mo mw ma mf m0 m1 mu mv u0 u1 iz mb th1_4 mn mpt mbg mwr mwk mlf men f1_22 G (-1) y_27 (1 : Int32) _ hT h_mu h_mv h_u0 h_u1 hR_24 ⟨hex_43, by rw [← hR_24.2.1.2.2.2.2.1]; exact rf_ylt rfl hc_28⟩) (cm_V 2 hts kc_X11_isIn ki_RX11 kl_RX11_350 kv_X11_isIn kx_X11_isIn kd_X11_isIn ⟨Nat.le_of_ble_eq_true rfl, Nat.le_of_ble_eq_true rfl⟩) (ty_preE (wr := []) (wc := ([(mo, .inr (11, [.ref mw, .ref ma, .ref mf, .ref m0, .ref m1, .ref mu, .ref mv, .ref u0, .ref u1, .ref iz, .int th1_4, .ref mb, .int mn, .int mpt, .int mbg, .int mwr, .int mwk, .int mlf, .int men])), (mw, .inl (ct 0, 958, .inl f1_22))] ++ ws)) (ci := 11) (q0 := 0) hP hK hD hS hA hX rfl rfl) rfl rfl hl.1 rfl (lv_room (Nat.le_of_ble_eq_true rfl)) dX11_start_60 ⟨Nat.le_of_ble_eq_true rfl, Nat.le_of_ble_eq_true rfl⟩) hP hD hS hA (fun r_29 u H locs hw_30 hP hD hS => ?_)
          obtain ⟨ws_31, rfl⟩ : ∃ z, z = u := ⟨_, rfl⟩
          obtain ⟨hT, hp_32⟩ := hw_30
          have hp_32 : ((r_29 = 0 ∧ ¬ rf_of f1_22 y_27 0 = (1 : Int32)) ∨ (r_29 = 1 ∧ rf_of f1_22 y_27 0 = (1 : Int32))) := hp_32
          have hP : va_P D vwCl ([(mo, .inr (11, [.ref mw, .ref ma, .ref mf, .ref m0, .ref m1, .ref mu, .ref mv, .ref u0, .ref u1, .ref iz, .int th1_4, .ref mb, .int mn, .int mpt, .int mbg, .int mwr, .int mwk, .int mlf, .int men])), (mw, .inl (ct 0, 958, .inl f1_22))] ++ ws_31) H := hP
          have hD : va_D A ([(mo, .inr (11, [.ref mw, .ref ma, .ref mf, .ref m0, .ref m1, .ref mu, .ref mv, .ref u0, .ref u1, .ref iz, .int th1_4, .ref mb, .int mn, .int mpt, .int mbg, .int mwr, .int mwk, .int mlf, .int men])), (mw, .inl (ct 0, 958, .inl f1_22))] ++ ws_31) := hD
          rcases hp_32 with ⟨rfl, hz_33⟩ | ⟨rfl, hz_34⟩
          · refine lv_if_eq (tgt := 70) hx hb dX11_start_63 (by decide) (fun _ => ?_) (fun hc => absurd (by decide) hc)
            refine lv_iconst (v := 0) hx hb dX11_start_70 (by decide) ?_
            refine lv_iadd hx hb dX11_start_71 ?_
            refine lv_topi (fun x_35 _ => ?_)
            refine lv_istore_n (lv' := [(3, .int x_35), (0, .ref mo), (1, .int p1), (2, .int p2), (4, .int y_27)]) hx hb dX11_start_72 rfl hl (by decide) rfl (fun ls hl => ?_)
            refine lv_iinc (v := (y_27 + Int32.ofInt 1)) (lv' := [(4, .int (y_27 + Int32.ofInt 1)), (3, .int x_35), (0, .ref mo), (1, .int p1), (2, .int p2)]) hx hb dX11_start_73 hl (k := 4) rfl rfl (by decide) rfl (fun ls hl => ?_)
            refine lv_goto (tgt := 43) hx hb dX11_start_76 (by decide) ?_
            exact ih_43 _ _ _ _ (ty_inc (cm_lt hc_28)) ⟨ws_31, x_35, (y_27 + Int32.ofInt 1), rfl, hT, hP, hD, hS, (lv_sub hl [2, 3, 4, 1, 0] rfl), (ty_nn hex_43 (cm_lt hc_28))⟩
          · refine lv_if_eq (tgt := 70) hx hb dX11_start_63 (by decide) (fun hc => absurd hc (by decide)) (fun _ => ?_)
            refine lv_iconst (v := 1) hx hb dX11_start_66 (by decide) ?_
            refine lv_goto (tgt := 71) hx hb dX11_start_67 (by decide) ?_
            refine lv_iadd hx hb dX11_start_71 ?_
            refine lv_topi (fun x_36 _ => ?_)
            refine lv_istore_n (lv' := [(3, .int x_36), (0, .ref mo), (1, .int p1), (2, .int p2), (4, .int y_27)]) hx hb dX11_start_72 rfl hl (by decide) rfl (fun ls hl => ?_)
            refine lv_iinc (v := (y_27 + Int32.ofInt 1)) (lv' := [(4, .int (y_27 + Int32.ofInt 1)), (3, .int x_36), (0, .ref mo), (1, .int p1), (2, .int p2)]) hx hb dX11_start_73 hl (k := 4) rfl rfl (by decide) rfl (fun ls hl => ?_)
            refine lv_goto (tgt := 43) hx hb dX11_start_76 (by decide) ?_
            exact ih_43 _ _ _ _ (ty_inc (cm_lt hc_28)) ⟨ws_31, x_36, (y_27 + Int32.ofInt 1), rfl, hT, hP, hD, hS, (lv_sub hl [2, 3, 4, 1, 0] rfl), (ty_nn hex_43 (cm_lt hc_28))⟩
    · refine lv_if_ne (tgt := 32) hx hb dX11_start_17 (by decide) (fun _ => ?_) (fun hc => absurd hc (by decide))
      refine lv_aload_n hx hb dX11_start_32 rfl (lv_at hl 0 rfl) ?_
      refine lv_iload_n hx hb dX11_start_33 rfl (lv_at hl 1 rfl) ?_
      refine lv_iload_n hx hb dX11_start_34 rfl (lv_at hl 2 rfl) ?_
      refine ty_kv (wr := []) (wc := ([(mo, .inr (11, [.ref mw, .ref ma, .ref mf, .ref m0, .ref m1, .ref mu, .ref mv, .ref u0, .ref u1, .ref iz, .int th1_4, .ref mb, .int mn, .int mpt, .int mbg, .int mwr, .int mwk, .int mlf, .int men])), (mw, .inl (ct 0, 958, .inl f))] ++ ws_9)) (va_runV (As := [.int p1, .int p2]) (rest := []) ⟨hx, hb, hml, hown, hts⟩ (m_X11_startsOn l D ct S ws_9 mo mw ma mf m0 m1 mu mv u0 u1 iz mb th1_4 mn mpt mbg mwr mwk mlf men f G (-1) p1 p2 _ hT h_mu h_mv h_u0 h_u1 hR hz_6.1 (Or.inl rfl) hz_6.2) (cm_V 2 hts kc_X11_startsOn ki_RX11 kl_RX11_288 kv_X11_startsOn kx_X11_startsOn kd_X11_startsOn ⟨Nat.le_of_ble_eq_true rfl, Nat.le_of_ble_eq_true rfl⟩) (ty_preE (wr := []) (wc := ([(mo, .inr (11, [.ref mw, .ref ma, .ref mf, .ref m0, .ref m1, .ref mu, .ref mv, .ref u0, .ref u1, .ref iz, .int th1_4, .ref mb, .int mn, .int mpt, .int mbg, .int mwr, .int mwk, .int mlf, .int men])), (mw, .inl (ct 0, 958, .inl f))] ++ ws_9)) (ci := 11) (q0 := 0) hP hK hD hS hA hX rfl rfl) rfl rfl hl.1 rfl (lv_room (Nat.le_of_ble_eq_true rfl)) dX11_start_35 ⟨Nat.le_of_ble_eq_true rfl, Nat.le_of_ble_eq_true rfl⟩) hP hD hS hA (fun u H locs hw_38 hP hD hS => ?_)
      obtain ⟨ws_39, f1_40⟩ := u
      obtain ⟨hT, hp_41⟩ := hw_38
      have hp_41 : rf_R G (-1) f1_40 := hp_41
      have hR_42 := hp_41
      have hP : va_P D vwCl ([(mo, .inr (11, [.ref mw, .ref ma, .ref mf, .ref m0, .ref m1, .ref mu, .ref mv, .ref u0, .ref u1, .ref iz, .int th1_4, .ref mb, .int mn, .int mpt, .int mbg, .int mwr, .int mwk, .int mlf, .int men])), (mw, .inl (ct 0, 958, .inl f1_40))] ++ ws_39) H := hP
      have hD : va_D A ([(mo, .inr (11, [.ref mw, .ref ma, .ref mf, .ref m0, .ref m1, .ref mu, .ref mv, .ref u0, .ref u1, .ref iz, .int th1_4, .ref mb, .int mn, .int mpt, .int mbg, .int mwr, .int mwk, .int mlf, .int men])), (mw, .inl (ct 0, 958, .inl f1_40))] ++ ws_39) := hD
      refine lv_iconst (v := 0) hx hb dX11_start_38 (by decide) ?_
      refine lv_istore_n (lv' := [(3, .int 0), (0, .ref mo), (1, .int p1), (2, .int p2)]) hx hb dX11_start_39 rfl hl (by decide) rfl (fun ls hl => ?_)
      refine lv_iconst (v := 0) hx hb dX11_start_40 (by decide) ?_
      refine lv_istore (lv' := [(4, .int 0), (3, .int 0), (0, .ref mo), (1, .int p1), (2, .int p2)]) hx hb dX11_start_41 hl (by decide) rfl (fun ls hl => ?_)
      refine ty_loop (I := fun μ H locs ls => ∃ (ws : va_W) (y_44 : Int32) (y_45 : Int32), μ = (2147483648 - y_45.toInt).toNat ∧ ty_W ct S ws ∧ va_P D vwCl ([(mo, .inr (11, [.ref mw, .ref ma, .ref mf, .ref m0, .ref m1, .ref mu, .ref mv, .ref u0, .ref u1, .ref iz, .int th1_4, .ref mb, .int mn, .int mpt, .int mbg, .int mwr, .int mwk, .int mlf, .int men])), (mw, .inl (ct 0, 958, .inl f1_40))] ++ ws) H ∧ va_D A ([(mo, .inr (11, [.ref mw, .ref ma, .ref mf, .ref m0, .ref m1, .ref mu, .ref mv, .ref u0, .ref u1, .ref iz, .int th1_4, .ref mb, .int mn, .int mpt, .int mbg, .int mwr, .int mwk, .int mlf, .int men])), (mw, .inl (ct 0, 958, .inl f1_40))] ++ ws) ∧ va_S A s.heap H locs ∧ lv_has ls 5 [(0, .ref mo), (1, .int p1), (2, .int p2), (3, .int y_44), (4, .int y_45)] ∧ 0 ≤ y_45.toInt) ⟨_, ws_39, (0 : Int32), (0 : Int32), rfl, hT, hP, hD, hS, (lv_sub hl [2, 3, 4, 1, 0] rfl), (by decide)⟩ (fun μ H locs ls hI ih_43 => ?_)
      obtain ⟨ws, y_44, y_45, rfl, hT, hP, hD, hS, hl, hex_43⟩ := hI
      refine lv_iload hx hb dX11_start_43 (lv_at hl 4 rfl) ?_
      refine lv_aload_n hx hb dX11_start_45 rfl (lv_at hl 0 rfl) ?_
      refine va_get (v := .ref mw) (D := D) (ci := 11) (C := RX11) (T := TX11) (N := 19) hx hb hts in_X11 hown hK hP 0 rfl rfl 0 (by decide) (hts _ kl_RX11_9) (fun _ h9 => h9) rfl dX11_start_46 ?_
      refine lv_bipush (v := 9) hx hb dX11_start_49 (by decide) ?_
      refine va_iald hx hb hK hP 1 0 rfl rfl (cm_vin (by decide)) dX11_start_51 ?_
      refine cm_cst (y := (f1_40 9)) (by first | rfl | decide +kernel) ?_
      refine lv_icmp_ge (tgt := 79) hx hb dX11_start_52 (by decide) (fun hc_46 => ?_) (fun hc_46 => ?_)
      · refine lv_iload_n hx hb dX11_start_79 rfl (lv_at hl 3 rfl) ?_
        exact W.iret (v := y_44) hx hb hr (fun t ht hW => ⟨⟨y_44, (ws, th1_4, f1_40), rfl, ⟨hT, hR_42⟩, by rw [ht]; exact hP, by rw [hAe]; exact hD⟩, hS.F ht⟩) hS.2.2 dX11_start_80
      · refine lv_iload_n hx hb dX11_start_55 rfl (lv_at hl 3 rfl) ?_
        refine lv_aload_n hx hb dX11_start_56 rfl (lv_at hl 0 rfl) ?_
        refine lv_iload hx hb dX11_start_57 (lv_at hl 4 rfl) ?_
        refine lv_iconst (v := 1) hx hb dX11_start_59 (by decide) ?_
        refine ty_ki (wr := []) (wc := ([(mo, .inr (11, [.ref mw, .ref ma, .ref mf, .ref m0, .ref m1, .ref mu, .ref mv, .ref u0, .ref u1, .ref iz, .int th1_4, .ref mb, .int mn, .int mpt, .int mbg, .int mwr, .int mwk, .int mlf, .int men])), (mw, .inl (ct 0, 958, .inl f1_40))] ++ ws)) (va_runV (As := [.int y_45, .int 1]) (rest := [.int y_44]) ⟨hx, hb, hml, hown, hts⟩ (m_X11_isIn l D ct S ws mo mw ma mf m0 m1 mu mv u0 u1 iz mb th1_4 mn mpt mbg mwr mwk mlf men f1_40 G (-1) y_45 (1 : Int32) _ hT h_mu h_mv h_u0 h_u1 hR_42 ⟨hex_43, by rw [← hR_42.2.1.2.2.2.2.1]; exact rf_ylt rfl hc_46⟩) (cm_V 2 hts kc_X11_isIn ki_RX11 kl_RX11_350 kv_X11_isIn kx_X11_isIn kd_X11_isIn ⟨Nat.le_of_ble_eq_true rfl, Nat.le_of_ble_eq_true rfl⟩) (ty_preE (wr := []) (wc := ([(mo, .inr (11, [.ref mw, .ref ma, .ref mf, .ref m0, .ref m1, .ref mu, .ref mv, .ref u0, .ref u1, .ref iz, .int th1_4, .ref mb, .int mn, .int mpt, .int mbg, .int mwr, .int mwk, .int mlf, .int men])), (mw, .inl (ct 0, 958, .inl f1_40))] ++ ws)) (ci := 11) (q0 := 0) hP hK hD hS hA hX rfl rfl) rfl rfl hl.1 rfl (lv_room (Nat.le_of_ble_eq_true rfl)) dX11_start_60 ⟨Nat.le_of_ble_eq_true rfl, Nat.le_of_ble_eq_true rfl⟩) hP hD hS hA (fun r_47 u H locs hw_48 hP hD hS => ?_)
        obtain ⟨ws_49, rfl⟩ : ∃ z, z = u := ⟨_, rfl⟩
        obtain ⟨hT, hp_50⟩ := hw_48
        have hp_50 : ((r_47 = 0 ∧ ¬ rf_of f1_40 y_45 0 = (1 : Int32)) ∨ (r_47 = 1 ∧ rf_of f1_40 y_45 0 = (1 : Int32))) := hp_50
        have hP : va_P D vwCl ([(mo, .inr (11, [.ref mw, .ref ma, .ref mf, .ref m0, .ref m1, .ref mu, .ref mv, .ref u0, .ref u1, .ref iz, .int th1_4, .ref mb, .int mn, .int mpt, .int mbg, .int mwr, .int mwk, .int mlf, .int men])), (mw, .inl (ct 0, 958, .inl f1_40))] ++ ws_49) H := hP
        have hD : va_D A ([(mo, .inr (11, [.ref mw, .ref ma, .ref mf, .ref m0, .ref m1, .ref mu, .ref mv, .ref u0, .ref u1, .ref iz, .int th1_4, .ref mb, .int mn, .int mpt, .int mbg, .int mwr, .int mwk, .int mlf, .int men])), (mw, .inl (ct 0, 958, .inl f1_40))] ++ ws_49) := hD
        rcases hp_50 with ⟨rfl, hz_51⟩ | ⟨rfl, hz_52⟩
        · refine lv_if_eq (tgt := 70) hx hb dX11_start_63 (by decide) (fun _ => ?_) (fun hc => absurd (by decide) hc)
          refine lv_iconst (v := 0) hx hb dX11_start_70 (by decide) ?_
          refine lv_iadd hx hb dX11_start_71 ?_
          refine lv_topi (fun x_53 _ => ?_)
          refine lv_istore_n (lv' := [(3, .int x_53), (0, .ref mo), (1, .int p1), (2, .int p2), (4, .int y_45)]) hx hb dX11_start_72 rfl hl (by decide) rfl (fun ls hl => ?_)
          refine lv_iinc (v := (y_45 + Int32.ofInt 1)) (lv' := [(4, .int (y_45 + Int32.ofInt 1)), (3, .int x_53), (0, .ref mo), (1, .int p1), (2, .int p2)]) hx hb dX11_start_73 hl (k := 4) rfl rfl (by decide) rfl (fun ls hl => ?_)
          refine lv_goto (tgt := 43) hx hb dX11_start_76 (by decide) ?_
          exact ih_43 _ _ _ _ (ty_inc (cm_lt hc_46)) ⟨ws_49, x_53, (y_45 + Int32.ofInt 1), rfl, hT, hP, hD, hS, (lv_sub hl [2, 3, 4, 1, 0] rfl), (ty_nn hex_43 (cm_lt hc_46))⟩
        · refine lv_if_eq (tgt := 70) hx hb dX11_start_63 (by decide) (fun hc => absurd hc (by decide)) (fun _ => ?_)
          refine lv_iconst (v := 1) hx hb dX11_start_66 (by decide) ?_
          refine lv_goto (tgt := 71) hx hb dX11_start_67 (by decide) ?_
          refine lv_iadd hx hb dX11_start_71 ?_
          refine lv_topi (fun x_54 _ => ?_)
          refine lv_istore_n (lv' := [(3, .int x_54), (0, .ref mo), (1, .int p1), (2, .int p2), (4, .int y_45)]) hx hb dX11_start_72 rfl hl (by decide) rfl (fun ls hl => ?_)
          refine lv_iinc (v := (y_45 + Int32.ofInt 1)) (lv' := [(4, .int (y_45 + Int32.ofInt 1)), (3, .int x_54), (0, .ref mo), (1, .int p1), (2, .int p2)]) hx hb dX11_start_73 hl (k := 4) rfl rfl (by decide) rfl (fun ls hl => ?_)
          refine lv_goto (tgt := 43) hx hb dX11_start_76 (by decide) ?_
          exact ih_43 _ _ _ _ (ty_inc (cm_lt hc_46)) ⟨ws_49, x_54, (y_45 + Int32.ofInt 1), rfl, hT, hP, hD, hS, (lv_sub hl [2, 3, 4, 1, 0] rfl), (ty_nn hex_43 (cm_lt hc_46))⟩
  · refine lv_if_eq (tgt := 11) hx hb dX11_start_6 (by decide) (fun hc => absurd hc (by decide)) (fun _ => ?_)
    refine lv_iconst (v := 0) hx hb dX11_start_9 (by decide) ?_
    exact W.iret (v := 0) hx hb hr (fun t ht hW => ⟨⟨0, (ws_3, th1_4, f), rfl, ⟨hT, hR⟩, by rw [ht]; exact hP, by rw [hAe]; exact hD⟩, hS.F ht⟩) hS.2.2 dX11_start_10
