theorem dX11_noProgram_0 : decode cX11_noProgram 0 = .ok (.aload_n 0, 1) := by decide +kernel
theorem dX11_noProgram_1 : decode cX11_noProgram 1 = .ok (.iload_n 1, 1) := by decide +kernel
theorem dX11_noProgram_2 : decode cX11_noProgram 2 = .ok (.invokevirtual 344, 3) := by decide +kernel
theorem dX11_noProgram_5 : decode cX11_noProgram 5 = .ok (.ifCond .ne 35, 3) := by decide +kernel
theorem dX11_noProgram_8 : decode cX11_noProgram 8 = .ok (.aload_n 0, 1) := by decide +kernel
theorem dX11_noProgram_9 : decode cX11_noProgram 9 = .ok (.iload_n 2, 1) := by decide +kernel
theorem dX11_noProgram_10 : decode cX11_noProgram 10 = .ok (.i2l, 1) := by decide +kernel
theorem dX11_noProgram_11 : decode cX11_noProgram 11 = .ok (.lconst 0, 1) := by decide +kernel
theorem dX11_noProgram_12 : decode cX11_noProgram 12 = .ok (.aload_n 0, 1) := by decide +kernel
theorem dX11_noProgram_13 : decode cX11_noProgram 13 = .ok (.getfield 9, 3) := by decide +kernel
theorem dX11_noProgram_16 : decode cX11_noProgram 16 = .ok (.bipush 10, 2) := by decide +kernel
theorem dX11_noProgram_18 : decode cX11_noProgram 18 = .ok (.iaload, 1) := by decide +kernel
theorem dX11_noProgram_19 : decode cX11_noProgram 19 = .ok (.iconst 1, 1) := by decide +kernel
theorem dX11_noProgram_20 : decode cX11_noProgram 20 = .ok (.isub, 1) := by decide +kernel
theorem dX11_noProgram_21 : decode cX11_noProgram 21 = .ok (.i2l, 1) := by decide +kernel
theorem dX11_noProgram_22 : decode cX11_noProgram 22 = .ok (.invokestatic 70, 3) := by decide +kernel
theorem dX11_noProgram_25 : decode cX11_noProgram 25 = .ok (.ifCond .ne 7, 3) := by decide +kernel
theorem dX11_noProgram_28 : decode cX11_noProgram 28 = .ok (.iconst 1, 1) := by decide +kernel
theorem dX11_noProgram_29 : decode cX11_noProgram 29 = .ok (.goto 4, 3) := by decide +kernel
theorem dX11_noProgram_32 : decode cX11_noProgram 32 = .ok (.iconst 0, 1) := by decide +kernel
theorem dX11_noProgram_33 : decode cX11_noProgram 33 = .ok (.iconst 1, 1) := by decide +kernel
theorem dX11_noProgram_34 : decode cX11_noProgram 34 = .ok (.invokevirtual 328, 3) := by decide +kernel
theorem dX11_noProgram_37 : decode cX11_noProgram 37 = .ok (.ifCond .eq 7, 3) := by decide +kernel
theorem dX11_noProgram_40 : decode cX11_noProgram 40 = .ok (.iconst 1, 1) := by decide +kernel
theorem dX11_noProgram_41 : decode cX11_noProgram 41 = .ok (.goto 4, 3) := by decide +kernel
theorem dX11_noProgram_44 : decode cX11_noProgram 44 = .ok (.iconst 0, 1) := by decide +kernel
theorem dX11_noProgram_45 : decode cX11_noProgram 45 = .ok (.ireturn, 1) := by decide +kernel
set_option maxRecDepth 100000 in
set_option maxHeartbeats 4000000 in
theorem m_X11_noProgram (l : Launch) (D : va_G) (ct : Nat → ClassId) (S : ty_S) (ws : va_W) (mo : Nat) (mw : Nat) (ma : Nat) (mf : Nat) (m0 : Nat) (m1 : Nat) (mu : Nat) (mv : Nat) (u0 : Nat) (u1 : Nat) (iz : Nat) (mb : Nat) (th : Int32) (mn : Int32) (mpt : Int32) (mbg : Int32) (mwr : Int32) (mwk : Int32) (mlf : Int32) (men : Int32) (f : Nat → Int32) (G : Nat → Int32) (cx : Int) (p1 : Int32) (p2 : Int32) (sz : Nat) (hT : ty_W ct S ws) (h_mu : S mu = some (.inr (1, 42))) (h_mv : S mv = some (.inr (1, 42))) (h_u0 : S u0 = some (.inr (1, 42))) (h_u1 : S u1 = some (.inr (1, 42))) (hR : rf_R G cx f) : Met l yX11_noProgram (ws_ yX11_noProgram cX11_noProgram 3 (some .boolean)) ({ frames := 2, cells := 0, slots := 0, locals := 46 } : Room) (va_Pc [.ref mo, .int p1, .int p2] (cmP D ct sz ([(mo, .inr (11, [.ref mw, .ref ma, .ref mf, .ref m0, .ref m1, .ref mu, .ref mv, .ref u0, .ref u1, .ref iz, .int th, .ref mb, .int mn, .int mpt, .int mbg, .int mwr, .int mwk, .int mlf, .int men])), (mw, .inl (ct 0, 958, .inl f))] ++ ws))) (va_Qi (fun (r : Int32) (u : va_W × Int32) => match u with | (u9, th1) => ty_W ct S u9 ∧ ((r = 0 ∧ (0 ≤ p1.toInt ∧ p1.toInt < (G 9).toInt) ∧ 0 ≤ p2.toInt ∧ p2.toInt < (G 10).toInt) ∨ r = 1)) (cmB D ([(mo, .inr (11, [.ref mw, .ref ma, .ref mf, .ref m0, .ref m1, .ref mu, .ref mv, .ref u0, .ref u1, .ref iz, .int th, .ref mb, .int mn, .int mpt, .int mbg, .int mwr, .int mwk, .int mlf, .int men])), (mw, .inl (ct 0, 958, .inl f))] ++ ws) sz (fun (u : va_W × Int32) => match u with | (u9, th1) => ([(mo, .inr (11, [.ref mw, .ref ma, .ref mf, .ref m0, .ref m1, .ref mu, .ref mv, .ref u0, .ref u1, .ref iz, .int th1, .ref mb, .int mn, .int mpt, .int mbg, .int mwr, .int mwk, .int mlf, .int men])), (mw, .inl (ct 0, 958, .inl f))] ++ u9))) (va_A ([(mo, .inr (11, [.ref mw, .ref ma, .ref mf, .ref m0, .ref m1, .ref mu, .ref mv, .ref u0, .ref u1, .ref iz, .int th, .ref mb, .int mn, .int mpt, .int mbg, .int mwr, .int mwk, .int mlf, .int men])), (mw, .inl (ct 0, 958, .inl f))] ++ ws) sz)) 0 0 (va_A ([(mo, .inr (11, [.ref mw, .ref ma, .ref mf, .ref m0, .ref m1, .ref mu, .ref mv, .ref u0, .ref u1, .ref iz, .int th, .ref mb, .int mn, .int mpt, .int mbg, .int mwr, .int mwk, .int mlf, .int men])), (mw, .inl (ct 0, 958, .inl f))] ++ ws) sz) := by
  refine Met.ofW (cc := cX11_noProgram) (maxL := 3) (ret := (some .boolean)) (by decide) rfl ?_
  intro p e s m args below meth c s₁ B hml hv
  obtain ⟨rfl, hsz, hP, hK, hD0, hX⟩ := hv
  have hx := B.exec
  have hb := B.bytes
  have hr := B.returns
  have hts := ws_all (atoms_spec (ws := ws_ yX11_noProgram cX11_noProgram 3 (some .boolean)) B.pre)
  have hown : s.vm.findClass RX11 = some m.cls := findClass_of_methodNamed B.named
  have hlocks := B.notSynchronized
  subst hsz
  have hD := hD0.self (sz := s.heap.size)
  generalize hAe : va_A ([(mo, .inr (11, [.ref mw, .ref ma, .ref mf, .ref m0, .ref m1, .ref mu, .ref mv, .ref u0, .ref u1, .ref iz, .int th, .ref mb, .int mn, .int mpt, .int mbg, .int mwr, .int mwk, .int mlf, .int men])), (mw, .inl (ct 0, 958, .inl f))] ++ ws) s.heap.size = A at hD hX ⊢
  have hA : ∀ q : Nat, s.heap.size ≤ q → A q := fun q h => by rw [← hAe]; exact Or.inr h
  have hS : va_S A s.heap s.heap [] := va_S.rf
  have hl := lv_entry ([.ref mo, .int p1, .int p2]) (n := 3) (Nat.le_of_ble_eq_true rfl)
  rw [lg_entry_eq]
  generalize (lg_sl ([.ref mo, .int p1, .int p2]) ++ List.replicate (3 - (lg_sl ([.ref mo, .int p1, .int p2])).length) Slot.unset).toArray = ls at hl ⊢
  have hl : lv_has ls 3 [(0, .ref mo), (1, .int p1), (2, .int p2)] := hl
  refine lv_aload_n hx hb dX11_noProgram_0 rfl (lv_at hl 0 rfl) ?_
  refine lv_iload_n hx hb dX11_noProgram_1 rfl (lv_at hl 1 rfl) ?_
  refine ty_ki (wr := []) (wc := ([(mo, .inr (11, [.ref mw, .ref ma, .ref mf, .ref m0, .ref m1, .ref mu, .ref mv, .ref u0, .ref u1, .ref iz, .int th, .ref mb, .int mn, .int mpt, .int mbg, .int mwr, .int mwk, .int mlf, .int men])), (mw, .inl (ct 0, 958, .inl f))] ++ ws)) (va_runV (As := [.int p1]) (rest := []) ⟨hx, hb, hml, hown, hts⟩ (m_X11_noChannel l D ct S ws mo mw ma mf m0 m1 mu mv u0 u1 iz mb th mn mpt mbg mwr mwk mlf men f G cx p1 _ hT h_mu h_mv h_u0 h_u1 hR) (cm_V 1 hts kc_X11_noChannel ki_RX11 kl_RX11_344 kv_X11_noChannel kx_X11_noChannel kd_X11_noChannel ⟨Nat.le_of_ble_eq_true rfl, Nat.le_of_ble_eq_true rfl⟩) (ty_preE (wr := []) (wc := ([(mo, .inr (11, [.ref mw, .ref ma, .ref mf, .ref m0, .ref m1, .ref mu, .ref mv, .ref u0, .ref u1, .ref iz, .int th, .ref mb, .int mn, .int mpt, .int mbg, .int mwr, .int mwk, .int mlf, .int men])), (mw, .inl (ct 0, 958, .inl f))] ++ ws)) (ci := 11) (q0 := 0) hP hK hD hS hA hX rfl rfl) rfl rfl hl.1 rfl (lv_room (Nat.le_of_ble_eq_true rfl)) dX11_noProgram_2 ⟨Nat.le_of_ble_eq_true rfl, Nat.le_of_ble_eq_true rfl⟩) hP hD hS hA (fun r_1 u H locs hw_2 hP hD hS => ?_)
  obtain ⟨ws_3, th1_4⟩ := u
  obtain ⟨hT, hp_5⟩ := hw_2
  have hp_5 : ((r_1 = 0 ∧ 0 ≤ p1.toInt ∧ p1.toInt < (G 9).toInt) ∨ r_1 = 1) := hp_5
  have hP : va_P D vwCl ([(mo, .inr (11, [.ref mw, .ref ma, .ref mf, .ref m0, .ref m1, .ref mu, .ref mv, .ref u0, .ref u1, .ref iz, .int th1_4, .ref mb, .int mn, .int mpt, .int mbg, .int mwr, .int mwk, .int mlf, .int men])), (mw, .inl (ct 0, 958, .inl f))] ++ ws_3) H := hP
  have hD : va_D A ([(mo, .inr (11, [.ref mw, .ref ma, .ref mf, .ref m0, .ref m1, .ref mu, .ref mv, .ref u0, .ref u1, .ref iz, .int th1_4, .ref mb, .int mn, .int mpt, .int mbg, .int mwr, .int mwk, .int mlf, .int men])), (mw, .inl (ct 0, 958, .inl f))] ++ ws_3) := hD
  rcases hp_5 with ⟨rfl, hz_6⟩ | rfl
  · refine lv_if_ne (tgt := 40) hx hb dX11_noProgram_5 (by decide) (fun hc => absurd (by decide) hc) (fun _ => ?_)
    refine lv_aload_n hx hb dX11_noProgram_8 rfl (lv_at hl 0 rfl) ?_
    refine lv_iload_n hx hb dX11_noProgram_9 rfl (lv_at hl 2 rfl) ?_
    refine lv_i2l hx hb dX11_noProgram_10 rfl ?_
    refine lv_lconst (v := 0) hx hb dX11_noProgram_11 (by decide) ?_
    refine lv_aload_n hx hb dX11_noProgram_12 rfl (lv_at hl 0 rfl) ?_
    refine va_get (v := .ref mw) (D := D) (ci := 11) (C := RX11) (T := TX11) (N := 19) hx hb hts in_X11 hown hK hP 0 rfl rfl 0 (by decide) (hts _ kl_RX11_9) (fun _ h9 => h9) rfl dX11_noProgram_13 ?_
    refine lv_bipush (v := 10) hx hb dX11_noProgram_16 (by decide) ?_
    refine va_iald hx hb hK hP 1 0 rfl rfl (cm_vin (by decide)) dX11_noProgram_18 ?_
    refine cm_cst (y := (f 10)) (by first | rfl | decide +kernel) ?_
    refine lv_iconst (v := 1) hx hb dX11_noProgram_19 (by decide) ?_
    refine lv_isub hx hb dX11_noProgram_20 ?_
    refine lv_i2l hx hb dX11_noProgram_21 rfl ?_
    refine ty_ki (wr := [(mo, .inr (11, [.ref mw, .ref ma, .ref mf, .ref m0, .ref m1, .ref mu, .ref mv, .ref u0, .ref u1, .ref iz, .int th1_4, .ref mb, .int mn, .int mpt, .int mbg, .int mwr, .int mwk, .int mlf, .int men])), (mw, .inl (ct 0, 958, .inl f))]) (wc := ([] ++ ws_3)) (va_runS (As := [.long p2.toInt64, .long 0, .long (((f 10) - 1).toInt64)]) (rest := [.ref mo]) ⟨hx, hb, hml, hown, hts⟩ (m_X11_in l D ct S ws_3 p2.toInt64 (0 : Int64) (((f 10) - 1).toInt64) _ hT) (cm_S 3 hts kc_X11_in ki_RX11 kl_RX11_70 ks_X11_in kd_X11_in ⟨Nat.le_of_ble_eq_true rfl, Nat.le_of_ble_eq_true rfl⟩) (ty_preS (wr := [(mo, .inr (11, [.ref mw, .ref ma, .ref mf, .ref m0, .ref m1, .ref mu, .ref mv, .ref u0, .ref u1, .ref iz, .int th1_4, .ref mb, .int mn, .int mpt, .int mbg, .int mwr, .int mwk, .int mlf, .int men])), (mw, .inl (ct 0, 958, .inl f))]) (wc := ([] ++ ws_3)) hP hK hD hS hA hX) rfl rfl hl.1 rfl (lv_room (Nat.le_of_ble_eq_true rfl)) dX11_noProgram_22 ⟨Nat.le_of_ble_eq_true rfl, Nat.le_of_ble_eq_true rfl⟩) hP hD hS hA (fun r_7 u H locs hw_8 hP hD hS => ?_)
    obtain ⟨ws_9, rfl⟩ : ∃ z, z = u := ⟨_, rfl⟩
    obtain ⟨hT, rfl⟩ := hw_8
    have hP : va_P D vwCl ([(mo, .inr (11, [.ref mw, .ref ma, .ref mf, .ref m0, .ref m1, .ref mu, .ref mv, .ref u0, .ref u1, .ref iz, .int th1_4, .ref mb, .int mn, .int mpt, .int mbg, .int mwr, .int mwk, .int mlf, .int men])), (mw, .inl (ct 0, 958, .inl f))] ++ ws_9) H := hP
    have hD : va_D A ([(mo, .inr (11, [.ref mw, .ref ma, .ref mf, .ref m0, .ref m1, .ref mu, .ref mv, .ref u0, .ref u1, .ref iz, .int th1_4, .ref mb, .int mn, .int mpt, .int mbg, .int mwr, .int mwk, .int mlf, .int men])), (mw, .inl (ct 0, 958, .inl f))] ++ ws_9) := hD
    refine lv_if_ne (tgt := 32) hx hb dX11_noProgram_25 (by decide) (fun hc_10 => ?_) (fun hc_10 => ?_)
    · refine lv_iconst (v := 0) hx hb dX11_noProgram_32 (by decide) ?_
      refine lv_iconst (v := 1) hx hb dX11_noProgram_33 (by decide) ?_
      have hP : va_P D vwCl ([(mw, .inl (ct 0, 958, .inl f)), (mo, .inr (11, [.ref mw, .ref ma, .ref mf, .ref m0, .ref m1, .ref mu, .ref mv, .ref u0, .ref u1, .ref iz, .int th1_4, .ref mb, .int mn, .int mpt, .int mbg, .int mwr, .int mwk, .int mlf, .int men]))] ++ ws_9) H := ty_permP hP (ty_ordp (E := [(mo, .inr (11, [.ref mw, .ref ma, .ref mf, .ref m0, .ref m1, .ref mu, .ref mv, .ref u0, .ref u1, .ref iz, .int th1_4, .ref mb, .int mn, .int mpt, .int mbg, .int mwr, .int mwk, .int mlf, .int men])), (mw, .inl (ct 0, 958, .inl f))]) (E2 := [(mw, .inl (ct 0, 958, .inl f)), (mo, .inr (11, [.ref mw, .ref ma, .ref mf, .ref m0, .ref m1, .ref mu, .ref mv, .ref u0, .ref u1, .ref iz, .int th1_4, .ref mb, .int mn, .int mpt, .int mbg, .int mwr, .int mwk, .int mlf, .int men]))]) (n := 2) [1, 0] rfl rfl (by decide))
      have hD : va_D A ([(mw, .inl (ct 0, 958, .inl f)), (mo, .inr (11, [.ref mw, .ref ma, .ref mf, .ref m0, .ref m1, .ref mu, .ref mv, .ref u0, .ref u1, .ref iz, .int th1_4, .ref mb, .int mn, .int mpt, .int mbg, .int mwr, .int mwk, .int mlf, .int men]))] ++ ws_9) := ty_permD hD (ty_ordp (E := [(mo, .inr (11, [.ref mw, .ref ma, .ref mf, .ref m0, .ref m1, .ref mu, .ref mv, .ref u0, .ref u1, .ref iz, .int th1_4, .ref mb, .int mn, .int mpt, .int mbg, .int mwr, .int mwk, .int mlf, .int men])), (mw, .inl (ct 0, 958, .inl f))]) (E2 := [(mw, .inl (ct 0, 958, .inl f)), (mo, .inr (11, [.ref mw, .ref ma, .ref mf, .ref m0, .ref m1, .ref mu, .ref mv, .ref u0, .ref u1, .ref iz, .int th1_4, .ref mb, .int mn, .int mpt, .int mbg, .int mwr, .int mwk, .int mlf, .int men]))]) (n := 2) [1, 0] rfl rfl (by decide))
      refine ty_ki (wr := [(mw, .inl (ct 0, 958, .inl f))]) (wc := ([(mo, .inr (11, [.ref mw, .ref ma, .ref mf, .ref m0, .ref m1, .ref mu, .ref mv, .ref u0, .ref u1, .ref iz, .int th1_4, .ref mb, .int mn, .int mpt, .int mbg, .int mwr, .int mwk, .int mlf, .int men]))] ++ ws_9)) (va_runV (As := [.int 0, .int 1]) (rest := []) ⟨hx, hb, hml, hown, hts⟩ (m_X11_throwsIf l D ct S ws_9 mo mw ma mf m0 m1 mu mv u0 u1 iz mb th1_4 mn mpt mbg mwr mwk mlf men (0 : Int32) (1 : Int32) _ hT h_mu h_mv h_u0 h_u1 (by decide)) (cm_V 2 hts kc_X11_throwsIf ki_RX11 kl_RX11_328 kv_X11_throwsIf kx_X11_throwsIf kd_X11_throwsIf ⟨Nat.le_of_ble_eq_true rfl, Nat.le_of_ble_eq_true rfl⟩) (ty_preE (wr := [(mw, .inl (ct 0, 958, .inl f))]) (wc := ([(mo, .inr (11, [.ref mw, .ref ma, .ref mf, .ref m0, .ref m1, .ref mu, .ref mv, .ref u0, .ref u1, .ref iz, .int th1_4, .ref mb, .int mn, .int mpt, .int mbg, .int mwr, .int mwk, .int mlf, .int men]))] ++ ws_9)) (ci := 11) (q0 := 1) hP hK hD hS hA hX rfl rfl) rfl rfl hl.1 rfl (lv_room (Nat.le_of_ble_eq_true rfl)) dX11_noProgram_34 ⟨Nat.le_of_ble_eq_true rfl, Nat.le_of_ble_eq_true rfl⟩) hP hD hS hA (fun r_11 u H locs hw_12 hP hD hS => ?_)
      obtain ⟨ws_13, th1_14⟩ := u
      obtain ⟨hT, hp_15⟩ := hw_12
      have hp_15 : ((r_11 = 0 ∧ (0 : Int32) = 0) ∨ r_11 = 1) := hp_15
      have hP : va_P D vwCl ([(mw, .inl (ct 0, 958, .inl f)), (mo, .inr (11, [.ref mw, .ref ma, .ref mf, .ref m0, .ref m1, .ref mu, .ref mv, .ref u0, .ref u1, .ref iz, .int th1_14, .ref mb, .int mn, .int mpt, .int mbg, .int mwr, .int mwk, .int mlf, .int men]))] ++ ws_13) H := hP
      have hD : va_D A ([(mw, .inl (ct 0, 958, .inl f)), (mo, .inr (11, [.ref mw, .ref ma, .ref mf, .ref m0, .ref m1, .ref mu, .ref mv, .ref u0, .ref u1, .ref iz, .int th1_14, .ref mb, .int mn, .int mpt, .int mbg, .int mwr, .int mwk, .int mlf, .int men]))] ++ ws_13) := hD
      rcases hp_15 with ⟨rfl, hz_16⟩ | rfl
      · refine lv_if_eq (tgt := 44) hx hb dX11_noProgram_37 (by decide) (fun _ => ?_) (fun hc => absurd (by decide) hc)
        refine lv_iconst (v := 0) hx hb dX11_noProgram_44 (by decide) ?_
        have hP : va_P D vwCl ([(mo, .inr (11, [.ref mw, .ref ma, .ref mf, .ref m0, .ref m1, .ref mu, .ref mv, .ref u0, .ref u1, .ref iz, .int th1_14, .ref mb, .int mn, .int mpt, .int mbg, .int mwr, .int mwk, .int mlf, .int men])), (mw, .inl (ct 0, 958, .inl f))] ++ ws_13) H := ty_permP hP (ty_ordp (E := [(mw, .inl (ct 0, 958, .inl f)), (mo, .inr (11, [.ref mw, .ref ma, .ref mf, .ref m0, .ref m1, .ref mu, .ref mv, .ref u0, .ref u1, .ref iz, .int th1_14, .ref mb, .int mn, .int mpt, .int mbg, .int mwr, .int mwk, .int mlf, .int men]))]) (E2 := [(mo, .inr (11, [.ref mw, .ref ma, .ref mf, .ref m0, .ref m1, .ref mu, .ref mv, .ref u0, .ref u1, .ref iz, .int th1_14, .ref mb, .int mn, .int mpt, .int mbg, .int mwr, .int mwk, .int mlf, .int men])), (mw, .inl (ct 0, 958, .inl f))]) (n := 2) [1, 0] rfl rfl (by decide))
        have hD : va_D A ([(mo, .inr (11, [.ref mw, .ref ma, .ref mf, .ref m0, .ref m1, .ref mu, .ref mv, .ref u0, .ref u1, .ref iz, .int th1_14, .ref mb, .int mn, .int mpt, .int mbg, .int mwr, .int mwk, .int mlf, .int men])), (mw, .inl (ct 0, 958, .inl f))] ++ ws_13) := ty_permD hD (ty_ordp (E := [(mw, .inl (ct 0, 958, .inl f)), (mo, .inr (11, [.ref mw, .ref ma, .ref mf, .ref m0, .ref m1, .ref mu, .ref mv, .ref u0, .ref u1, .ref iz, .int th1_14, .ref mb, .int mn, .int mpt, .int mbg, .int mwr, .int mwk, .int mlf, .int men]))]) (E2 := [(mo, .inr (11, [.ref mw, .ref ma, .ref mf, .ref m0, .ref m1, .ref mu, .ref mv, .ref u0, .ref u1, .ref iz, .int th1_14, .ref mb, .int mn, .int mpt, .int mbg, .int mwr, .int mwk, .int mlf, .int men])), (mw, .inl (ct 0, 958, .inl f))]) (n := 2) [1, 0] rfl rfl (by decide))
        exact W.zret (v := 0) hx hb hr (by decide) (fun t ht hW => ⟨⟨0, (ws_13, th1_14), rfl, ⟨hT, (Or.inl ⟨rfl, hz_6, rf_prog hR hc_10⟩)⟩, by rw [ht]; exact hP, by rw [hAe]; exact hD⟩, hS.F ht⟩) hS.2.2 dX11_noProgram_45
      · refine lv_if_eq (tgt := 44) hx hb dX11_noProgram_37 (by decide) (fun hc => absurd hc (by decide)) (fun _ => ?_)
        refine lv_iconst (v := 1) hx hb dX11_noProgram_40 (by decide) ?_
        refine lv_goto (tgt := 45) hx hb dX11_noProgram_41 (by decide) ?_
        have hP : va_P D vwCl ([(mo, .inr (11, [.ref mw, .ref ma, .ref mf, .ref m0, .ref m1, .ref mu, .ref mv, .ref u0, .ref u1, .ref iz, .int th1_14, .ref mb, .int mn, .int mpt, .int mbg, .int mwr, .int mwk, .int mlf, .int men])), (mw, .inl (ct 0, 958, .inl f))] ++ ws_13) H := ty_permP hP (ty_ordp (E := [(mw, .inl (ct 0, 958, .inl f)), (mo, .inr (11, [.ref mw, .ref ma, .ref mf, .ref m0, .ref m1, .ref mu, .ref mv, .ref u0, .ref u1, .ref iz, .int th1_14, .ref mb, .int mn, .int mpt, .int mbg, .int mwr, .int mwk, .int mlf, .int men]))]) (E2 := [(mo, .inr (11, [.ref mw, .ref ma, .ref mf, .ref m0, .ref m1, .ref mu, .ref mv, .ref u0, .ref u1, .ref iz, .int th1_14, .ref mb, .int mn, .int mpt, .int mbg, .int mwr, .int mwk, .int mlf, .int men])), (mw, .inl (ct 0, 958, .inl f))]) (n := 2) [1, 0] rfl rfl (by decide))
        have hD : va_D A ([(mo, .inr (11, [.ref mw, .ref ma, .ref mf, .ref m0, .ref m1, .ref mu, .ref mv, .ref u0, .ref u1, .ref iz, .int th1_14, .ref mb, .int mn, .int mpt, .int mbg, .int mwr, .int mwk, .int mlf, .int men])), (mw, .inl (ct 0, 958, .inl f))] ++ ws_13) := ty_permD hD (ty_ordp (E := [(mw, .inl (ct 0, 958, .inl f)), (mo, .inr (11, [.ref mw, .ref ma, .ref mf, .ref m0, .ref m1, .ref mu, .ref mv, .ref u0, .ref u1, .ref iz, .int th1_14, .ref mb, .int mn, .int mpt, .int mbg, .int mwr, .int mwk, .int mlf, .int men]))]) (E2 := [(mo, .inr (11, [.ref mw, .ref ma, .ref mf, .ref m0, .ref m1, .ref mu, .ref mv, .ref u0, .ref u1, .ref iz, .int th1_14, .ref mb, .int mn, .int mpt, .int mbg, .int mwr, .int mwk, .int mlf, .int men])), (mw, .inl (ct 0, 958, .inl f))]) (n := 2) [1, 0] rfl rfl (by decide))
        exact W.zret (v := 1) hx hb hr (by decide) (fun t ht hW => ⟨⟨1, (ws_13, th1_14), rfl, ⟨hT, (Or.inr rfl)⟩, by rw [ht]; exact hP, by rw [hAe]; exact hD⟩, hS.F ht⟩) hS.2.2 dX11_noProgram_45
    · refine lv_iconst (v := 1) hx hb dX11_noProgram_28 (by decide) ?_
      refine lv_goto (tgt := 33) hx hb dX11_noProgram_29 (by decide) ?_
      refine lv_iconst (v := 1) hx hb dX11_noProgram_33 (by decide) ?_
      have hP : va_P D vwCl ([(mw, .inl (ct 0, 958, .inl f)), (mo, .inr (11, [.ref mw, .ref ma, .ref mf, .ref m0, .ref m1, .ref mu, .ref mv, .ref u0, .ref u1, .ref iz, .int th1_4, .ref mb, .int mn, .int mpt, .int mbg, .int mwr, .int mwk, .int mlf, .int men]))] ++ ws_9) H := ty_permP hP (ty_ordp (E := [(mo, .inr (11, [.ref mw, .ref ma, .ref mf, .ref m0, .ref m1, .ref mu, .ref mv, .ref u0, .ref u1, .ref iz, .int th1_4, .ref mb, .int mn, .int mpt, .int mbg, .int mwr, .int mwk, .int mlf, .int men])), (mw, .inl (ct 0, 958, .inl f))]) (E2 := [(mw, .inl (ct 0, 958, .inl f)), (mo, .inr (11, [.ref mw, .ref ma, .ref mf, .ref m0, .ref m1, .ref mu, .ref mv, .ref u0, .ref u1, .ref iz, .int th1_4, .ref mb, .int mn, .int mpt, .int mbg, .int mwr, .int mwk, .int mlf, .int men]))]) (n := 2) [1, 0] rfl rfl (by decide))
      have hD : va_D A ([(mw, .inl (ct 0, 958, .inl f)), (mo, .inr (11, [.ref mw, .ref ma, .ref mf, .ref m0, .ref m1, .ref mu, .ref mv, .ref u0, .ref u1, .ref iz, .int th1_4, .ref mb, .int mn, .int mpt, .int mbg, .int mwr, .int mwk, .int mlf, .int men]))] ++ ws_9) := ty_permD hD (ty_ordp (E := [(mo, .inr (11, [.ref mw, .ref ma, .ref mf, .ref m0, .ref m1, .ref mu, .ref mv, .ref u0, .ref u1, .ref iz, .int th1_4, .ref mb, .int mn, .int mpt, .int mbg, .int mwr, .int mwk, .int mlf, .int men])), (mw, .inl (ct 0, 958, .inl f))]) (E2 := [(mw, .inl (ct 0, 958, .inl f)), (mo, .inr (11, [.ref mw, .ref ma, .ref mf, .ref m0, .ref m1, .ref mu, .ref mv, .ref u0, .ref u1, .ref iz, .int th1_4, .ref mb, .int mn, .int mpt, .int mbg, .int mwr, .int mwk, .int mlf, .int men]))]) (n := 2) [1, 0] rfl rfl (by decide))
      refine ty_ki (wr := [(mw, .inl (ct 0, 958, .inl f))]) (wc := ([(mo, .inr (11, [.ref mw, .ref ma, .ref mf, .ref m0, .ref m1, .ref mu, .ref mv, .ref u0, .ref u1, .ref iz, .int th1_4, .ref mb, .int mn, .int mpt, .int mbg, .int mwr, .int mwk, .int mlf, .int men]))] ++ ws_9)) (va_runV (As := [.int 1, .int 1]) (rest := []) ⟨hx, hb, hml, hown, hts⟩ (m_X11_throwsIf l D ct S ws_9 mo mw ma mf m0 m1 mu mv u0 u1 iz mb th1_4 mn mpt mbg mwr mwk mlf men (1 : Int32) (1 : Int32) _ hT h_mu h_mv h_u0 h_u1 (by decide)) (cm_V 2 hts kc_X11_throwsIf ki_RX11 kl_RX11_328 kv_X11_throwsIf kx_X11_throwsIf kd_X11_throwsIf ⟨Nat.le_of_ble_eq_true rfl, Nat.le_of_ble_eq_true rfl⟩) (ty_preE (wr := [(mw, .inl (ct 0, 958, .inl f))]) (wc := ([(mo, .inr (11, [.ref mw, .ref ma, .ref mf, .ref m0, .ref m1, .ref mu, .ref mv, .ref u0, .ref u1, .ref iz, .int th1_4, .ref mb, .int mn, .int mpt, .int mbg, .int mwr, .int mwk, .int mlf, .int men]))] ++ ws_9)) (ci := 11) (q0 := 1) hP hK hD hS hA hX rfl rfl) rfl rfl hl.1 rfl (lv_room (Nat.le_of_ble_eq_true rfl)) dX11_noProgram_34 ⟨Nat.le_of_ble_eq_true rfl, Nat.le_of_ble_eq_true rfl⟩) hP hD hS hA (fun r_17 u H locs hw_18 hP hD hS => ?_)
      obtain ⟨ws_19, th1_20⟩ := u
      obtain ⟨hT, hp_21⟩ := hw_18
      have hp_21 : ((r_17 = 0 ∧ (1 : Int32) = 0) ∨ r_17 = 1) := hp_21
      have hP : va_P D vwCl ([(mw, .inl (ct 0, 958, .inl f)), (mo, .inr (11, [.ref mw, .ref ma, .ref mf, .ref m0, .ref m1, .ref mu, .ref mv, .ref u0, .ref u1, .ref iz, .int th1_20, .ref mb, .int mn, .int mpt, .int mbg, .int mwr, .int mwk, .int mlf, .int men]))] ++ ws_19) H := hP
      have hD : va_D A ([(mw, .inl (ct 0, 958, .inl f)), (mo, .inr (11, [.ref mw, .ref ma, .ref mf, .ref m0, .ref m1, .ref mu, .ref mv, .ref u0, .ref u1, .ref iz, .int th1_20, .ref mb, .int mn, .int mpt, .int mbg, .int mwr, .int mwk, .int mlf, .int men]))] ++ ws_19) := hD
      rcases hp_21 with ⟨rfl, hz_22⟩ | rfl
      · exact absurd hz_22 (by decide)
      · refine lv_if_eq (tgt := 44) hx hb dX11_noProgram_37 (by decide) (fun hc => absurd hc (by decide)) (fun _ => ?_)
        refine lv_iconst (v := 1) hx hb dX11_noProgram_40 (by decide) ?_
        refine lv_goto (tgt := 45) hx hb dX11_noProgram_41 (by decide) ?_
        have hP : va_P D vwCl ([(mo, .inr (11, [.ref mw, .ref ma, .ref mf, .ref m0, .ref m1, .ref mu, .ref mv, .ref u0, .ref u1, .ref iz, .int th1_20, .ref mb, .int mn, .int mpt, .int mbg, .int mwr, .int mwk, .int mlf, .int men])), (mw, .inl (ct 0, 958, .inl f))] ++ ws_19) H := ty_permP hP (ty_ordp (E := [(mw, .inl (ct 0, 958, .inl f)), (mo, .inr (11, [.ref mw, .ref ma, .ref mf, .ref m0, .ref m1, .ref mu, .ref mv, .ref u0, .ref u1, .ref iz, .int th1_20, .ref mb, .int mn, .int mpt, .int mbg, .int mwr, .int mwk, .int mlf, .int men]))]) (E2 := [(mo, .inr (11, [.ref mw, .ref ma, .ref mf, .ref m0, .ref m1, .ref mu, .ref mv, .ref u0, .ref u1, .ref iz, .int th1_20, .ref mb, .int mn, .int mpt, .int mbg, .int mwr, .int mwk, .int mlf, .int men])), (mw, .inl (ct 0, 958, .inl f))]) (n := 2) [1, 0] rfl rfl (by decide))
        have hD : va_D A ([(mo, .inr (11, [.ref mw, .ref ma, .ref mf, .ref m0, .ref m1, .ref mu, .ref mv, .ref u0, .ref u1, .ref iz, .int th1_20, .ref mb, .int mn, .int mpt, .int mbg, .int mwr, .int mwk, .int mlf, .int men])), (mw, .inl (ct 0, 958, .inl f))] ++ ws_19) := ty_permD hD (ty_ordp (E := [(mw, .inl (ct 0, 958, .inl f)), (mo, .inr (11, [.ref mw, .ref ma, .ref mf, .ref m0, .ref m1, .ref mu, .ref mv, .ref u0, .ref u1, .ref iz, .int th1_20, .ref mb, .int mn, .int mpt, .int mbg, .int mwr, .int mwk, .int mlf, .int men]))]) (E2 := [(mo, .inr (11, [.ref mw, .ref ma, .ref mf, .ref m0, .ref m1, .ref mu, .ref mv, .ref u0, .ref u1, .ref iz, .int th1_20, .ref mb, .int mn, .int mpt, .int mbg, .int mwr, .int mwk, .int mlf, .int men])), (mw, .inl (ct 0, 958, .inl f))]) (n := 2) [1, 0] rfl rfl (by decide))
        exact W.zret (v := 1) hx hb hr (by decide) (fun t ht hW => ⟨⟨1, (ws_19, th1_20), rfl, ⟨hT, (Or.inr rfl)⟩, by rw [ht]; exact hP, by rw [hAe]; exact hD⟩, hS.F ht⟩) hS.2.2 dX11_noProgram_45
  · refine lv_if_ne (tgt := 40) hx hb dX11_noProgram_5 (by decide) (fun _ => ?_) (fun hc => absurd hc (by decide))
    refine lv_iconst (v := 1) hx hb dX11_noProgram_40 (by decide) ?_
    refine lv_goto (tgt := 45) hx hb dX11_noProgram_41 (by decide) ?_
    exact W.zret (v := 1) hx hb hr (by decide) (fun t ht hW => ⟨⟨1, (ws_3, th1_4), rfl, ⟨hT, (Or.inr rfl)⟩, by rw [ht]; exact hP, by rw [hAe]; exact hD⟩, hS.F ht⟩) hS.2.2 dX11_noProgram_45
theorem dX11_noSlot_0 : decode cX11_noSlot 0 = .ok (.aload_n 0, 1) := by decide +kernel
theorem dX11_noSlot_1 : decode cX11_noSlot 1 = .ok (.iconst 0, 1) := by decide +kernel
theorem dX11_noSlot_2 : decode cX11_noSlot 2 = .ok (.putfield 49, 3) := by decide +kernel
theorem dX11_noSlot_5 : decode cX11_noSlot 5 = .ok (.aload_n 0, 1) := by decide +kernel
theorem dX11_noSlot_6 : decode cX11_noSlot 6 = .ok (.iload_n 1, 1) := by decide +kernel
theorem dX11_noSlot_7 : decode cX11_noSlot 7 = .ok (.i2l, 1) := by decide +kernel
theorem dX11_noSlot_8 : decode cX11_noSlot 8 = .ok (.lconst 0, 1) := by decide +kernel
theorem dX11_noSlot_9 : decode cX11_noSlot 9 = .ok (.lconst 1, 1) := by decide +kernel
theorem dX11_noSlot_10 : decode cX11_noSlot 10 = .ok (.invokestatic 70, 3) := by decide +kernel
theorem dX11_noSlot_13 : decode cX11_noSlot 13 = .ok (.ifCond .ne 7, 3) := by decide +kernel
theorem dX11_noSlot_16 : decode cX11_noSlot 16 = .ok (.iconst 1, 1) := by decide +kernel
theorem dX11_noSlot_17 : decode cX11_noSlot 17 = .ok (.goto 4, 3) := by decide +kernel
theorem dX11_noSlot_20 : decode cX11_noSlot 20 = .ok (.iconst 0, 1) := by decide +kernel
theorem dX11_noSlot_21 : decode cX11_noSlot 21 = .ok (.iconst 1, 1) := by decide +kernel
theorem dX11_noSlot_22 : decode cX11_noSlot 22 = .ok (.invokevirtual 328, 3) := by decide +kernel
theorem dX11_noSlot_25 : decode cX11_noSlot 25 = .ok (.ireturn, 1) := by decide +kernel
set_option maxRecDepth 100000 in
set_option maxHeartbeats 4000000 in
theorem m_X11_noSlot (l : Launch) (D : va_G) (ct : Nat → ClassId) (S : ty_S) (ws : va_W) (mo : Nat) (mw : Nat) (ma : Nat) (mf : Nat) (m0 : Nat) (m1 : Nat) (mu : Nat) (mv : Nat) (u0 : Nat) (u1 : Nat) (iz : Nat) (mb : Nat) (th : Int32) (mn : Int32) (mpt : Int32) (mbg : Int32) (mwr : Int32) (mwk : Int32) (mlf : Int32) (men : Int32) (p1 : Int32) (sz : Nat) (hT : ty_W ct S ws) (h_mu : S mu = some (.inr (1, 42))) (h_mv : S mv = some (.inr (1, 42))) (h_u0 : S u0 = some (.inr (1, 42))) (h_u1 : S u1 = some (.inr (1, 42))) : Met l yX11_noSlot (ws_ yX11_noSlot cX11_noSlot 2 (some .boolean)) ({ frames := 1, cells := 0, slots := 0, locals := 25 } : Room) (va_Pc [.ref mo, .int p1] (cmP D ct sz ([(mo, .inr (11, [.ref mw, .ref ma, .ref mf, .ref m0, .ref m1, .ref mu, .ref mv, .ref u0, .ref u1, .ref iz, .int th, .ref mb, .int mn, .int mpt, .int mbg, .int mwr, .int mwk, .int mlf, .int men]))] ++ ws))) (va_Qi (fun (r : Int32) (u : va_W × Int32) => match u with | (u9, th1) => ty_W ct S u9 ∧ ((r = 0 ∧ 0 ≤ p1.toInt ∧ p1.toInt ≤ 1) ∨ r = 1)) (cmB D ([(mo, .inr (11, [.ref mw, .ref ma, .ref mf, .ref m0, .ref m1, .ref mu, .ref mv, .ref u0, .ref u1, .ref iz, .int th, .ref mb, .int mn, .int mpt, .int mbg, .int mwr, .int mwk, .int mlf, .int men]))] ++ ws) sz (fun (u : va_W × Int32) => match u with | (u9, th1) => ([(mo, .inr (11, [.ref mw, .ref ma, .ref mf, .ref m0, .ref m1, .ref mu, .ref mv, .ref u0, .ref u1, .ref iz, .int th1, .ref mb, .int mn, .int mpt, .int mbg, .int mwr, .int mwk, .int mlf, .int men]))] ++ u9))) (va_A ([(mo, .inr (11, [.ref mw, .ref ma, .ref mf, .ref m0, .ref m1, .ref mu, .ref mv, .ref u0, .ref u1, .ref iz, .int th, .ref mb, .int mn, .int mpt, .int mbg, .int mwr, .int mwk, .int mlf, .int men]))] ++ ws) sz)) 0 0 (va_A ([(mo, .inr (11, [.ref mw, .ref ma, .ref mf, .ref m0, .ref m1, .ref mu, .ref mv, .ref u0, .ref u1, .ref iz, .int th, .ref mb, .int mn, .int mpt, .int mbg, .int mwr, .int mwk, .int mlf, .int men]))] ++ ws) sz) := by
  refine Met.ofW (cc := cX11_noSlot) (maxL := 2) (ret := (some .boolean)) (by decide) rfl ?_
  intro p e s m args below meth c s₁ B hml hv
  obtain ⟨rfl, hsz, hP, hK, hD0, hX⟩ := hv
  have hx := B.exec
  have hb := B.bytes
  have hr := B.returns
  have hts := ws_all (atoms_spec (ws := ws_ yX11_noSlot cX11_noSlot 2 (some .boolean)) B.pre)
  have hown : s.vm.findClass RX11 = some m.cls := findClass_of_methodNamed B.named
  have hlocks := B.notSynchronized
  subst hsz
  have hD := hD0.self (sz := s.heap.size)
  generalize hAe : va_A ([(mo, .inr (11, [.ref mw, .ref ma, .ref mf, .ref m0, .ref m1, .ref mu, .ref mv, .ref u0, .ref u1, .ref iz, .int th, .ref mb, .int mn, .int mpt, .int mbg, .int mwr, .int mwk, .int mlf, .int men]))] ++ ws) s.heap.size = A at hD hX ⊢
  have hA : ∀ q : Nat, s.heap.size ≤ q → A q := fun q h => by rw [← hAe]; exact Or.inr h
  have hS : va_S A s.heap s.heap [] := va_S.rf
  have hl := lv_entry ([.ref mo, .int p1]) (n := 2) (Nat.le_of_ble_eq_true rfl)
  rw [lg_entry_eq]
  generalize (lg_sl ([.ref mo, .int p1]) ++ List.replicate (2 - (lg_sl ([.ref mo, .int p1])).length) Slot.unset).toArray = ls at hl ⊢
  have hl : lv_has ls 2 [(0, .ref mo), (1, .int p1)] := hl
  refine lv_aload_n hx hb dX11_noSlot_0 rfl (lv_at hl 0 rfl) ?_
  refine lv_iconst (v := 0) hx hb dX11_noSlot_1 (by decide) ?_
  refine va_put (v := .int 0) (ty := .int) (D := D) (ci := 11) (C := RX11) (T := TX11) (N := 19) hx hb hts in_X11 tyX11 tyX11_ok nmX11 hown hK hP hD hS 0 rfl rfl 10 (by decide) (hts _ kl_RX11_49) (fun _ h9 => h9) rfl (by decide +kernel) rfl rfl (Nat.le_of_ble_eq_true rfl) dX11_noSlot_2 (fun H locs hP hD hS => ?_)
  have hP : va_P D vwCl ([(mo, .inr (11, [.ref mw, .ref ma, .ref mf, .ref m0, .ref m1, .ref mu, .ref mv, .ref u0, .ref u1, .ref iz, .int 0, .ref mb, .int mn, .int mpt, .int mbg, .int mwr, .int mwk, .int mlf, .int men]))] ++ ws) H := hP
  have hD : va_D A ([(mo, .inr (11, [.ref mw, .ref ma, .ref mf, .ref m0, .ref m1, .ref mu, .ref mv, .ref u0, .ref u1, .ref iz, .int 0, .ref mb, .int mn, .int mpt, .int mbg, .int mwr, .int mwk, .int mlf, .int men]))] ++ ws) := hD
  refine lv_aload_n hx hb dX11_noSlot_5 rfl (lv_at hl 0 rfl) ?_
  refine lv_iload_n hx hb dX11_noSlot_6 rfl (lv_at hl 1 rfl) ?_
  refine lv_i2l hx hb dX11_noSlot_7 rfl ?_
  refine lv_lconst (v := 0) hx hb dX11_noSlot_8 (by decide) ?_
  refine lv_lconst (v := 1) hx hb dX11_noSlot_9 (by decide) ?_
  refine ty_ki (wr := [(mo, .inr (11, [.ref mw, .ref ma, .ref mf, .ref m0, .ref m1, .ref mu, .ref mv, .ref u0, .ref u1, .ref iz, .int 0, .ref mb, .int mn, .int mpt, .int mbg, .int mwr, .int mwk, .int mlf, .int men]))]) (wc := ([] ++ ws)) (va_runS (As := [.long p1.toInt64, .long 0, .long 1]) (rest := [.ref mo]) ⟨hx, hb, hml, hown, hts⟩ (m_X11_in l D ct S ws p1.toInt64 (0 : Int64) (1 : Int64) _ hT) (cm_S 3 hts kc_X11_in ki_RX11 kl_RX11_70 ks_X11_in kd_X11_in ⟨Nat.le_of_ble_eq_true rfl, Nat.le_of_ble_eq_true rfl⟩) (ty_preS (wr := [(mo, .inr (11, [.ref mw, .ref ma, .ref mf, .ref m0, .ref m1, .ref mu, .ref mv, .ref u0, .ref u1, .ref iz, .int 0, .ref mb, .int mn, .int mpt, .int mbg, .int mwr, .int mwk, .int mlf, .int men]))]) (wc := ([] ++ ws)) hP hK hD hS hA hX) rfl rfl hl.1 rfl (lv_room (Nat.le_of_ble_eq_true rfl)) dX11_noSlot_10 ⟨Nat.le_of_ble_eq_true rfl, Nat.le_of_ble_eq_true rfl⟩) hP hD hS hA (fun r_1 u H locs hw_2 hP hD hS => ?_)
  obtain ⟨ws_3, rfl⟩ : ∃ z, z = u := ⟨_, rfl⟩
  obtain ⟨hT, rfl⟩ := hw_2
  have hP : va_P D vwCl ([(mo, .inr (11, [.ref mw, .ref ma, .ref mf, .ref m0, .ref m1, .ref mu, .ref mv, .ref u0, .ref u1, .ref iz, .int 0, .ref mb, .int mn, .int mpt, .int mbg, .int mwr, .int mwk, .int mlf, .int men]))] ++ ws_3) H := hP
  have hD : va_D A ([(mo, .inr (11, [.ref mw, .ref ma, .ref mf, .ref m0, .ref m1, .ref mu, .ref mv, .ref u0, .ref u1, .ref iz, .int 0, .ref mb, .int mn, .int mpt, .int mbg, .int mwr, .int mwk, .int mlf, .int men]))] ++ ws_3) := hD
  refine lv_if_ne (tgt := 20) hx hb dX11_noSlot_13 (by decide) (fun hc_4 => ?_) (fun hc_4 => ?_)
  · refine lv_iconst (v := 0) hx hb dX11_noSlot_20 (by decide) ?_
    refine lv_iconst (v := 1) hx hb dX11_noSlot_21 (by decide) ?_
    refine ty_ki (wr := []) (wc := ([(mo, .inr (11, [.ref mw, .ref ma, .ref mf, .ref m0, .ref m1, .ref mu, .ref mv, .ref u0, .ref u1, .ref iz, .int 0, .ref mb, .int mn, .int mpt, .int mbg, .int mwr, .int mwk, .int mlf, .int men]))] ++ ws_3)) (va_runV (As := [.int 0, .int 1]) (rest := []) ⟨hx, hb, hml, hown, hts⟩ (m_X11_throwsIf l D ct S ws_3 mo mw ma mf m0 m1 mu mv u0 u1 iz mb (0 : Int32) mn mpt mbg mwr mwk mlf men (0 : Int32) (1 : Int32) _ hT h_mu h_mv h_u0 h_u1 (by decide)) (cm_V 2 hts kc_X11_throwsIf ki_RX11 kl_RX11_328 kv_X11_throwsIf kx_X11_throwsIf kd_X11_throwsIf ⟨Nat.le_of_ble_eq_true rfl, Nat.le_of_ble_eq_true rfl⟩) (ty_preE (wr := []) (wc := ([(mo, .inr (11, [.ref mw, .ref ma, .ref mf, .ref m0, .ref m1, .ref mu, .ref mv, .ref u0, .ref u1, .ref iz, .int 0, .ref mb, .int mn, .int mpt, .int mbg, .int mwr, .int mwk, .int mlf, .int men]))] ++ ws_3)) (ci := 11) (q0 := 0) hP hK hD hS hA hX rfl rfl) rfl rfl hl.1 rfl (lv_room (Nat.le_of_ble_eq_true rfl)) dX11_noSlot_22 ⟨Nat.le_of_ble_eq_true rfl, Nat.le_of_ble_eq_true rfl⟩) hP hD hS hA (fun r_5 u H locs hw_6 hP hD hS => ?_)
    obtain ⟨ws_7, th1_8⟩ := u
    obtain ⟨hT, hp_9⟩ := hw_6
    have hp_9 : ((r_5 = 0 ∧ (0 : Int32) = 0) ∨ r_5 = 1) := hp_9
    have hP : va_P D vwCl ([(mo, .inr (11, [.ref mw, .ref ma, .ref mf, .ref m0, .ref m1, .ref mu, .ref mv, .ref u0, .ref u1, .ref iz, .int th1_8, .ref mb, .int mn, .int mpt, .int mbg, .int mwr, .int mwk, .int mlf, .int men]))] ++ ws_7) H := hP
    have hD : va_D A ([(mo, .inr (11, [.ref mw, .ref ma, .ref mf, .ref m0, .ref m1, .ref mu, .ref mv, .ref u0, .ref u1, .ref iz, .int th1_8, .ref mb, .int mn, .int mpt, .int mbg, .int mwr, .int mwk, .int mlf, .int men]))] ++ ws_7) := hD
    rcases hp_9 with ⟨rfl, hz_10⟩ | rfl
    · exact W.zret (v := 0) hx hb hr (by decide) (fun t ht hW => ⟨⟨0, (ws_7, th1_8), rfl, ⟨hT, (Or.inl ⟨rfl, (rf_rngc (L := 0) (U := 1) (by decide) (by decide) hc_4)⟩)⟩, by rw [ht]; exact hP, by rw [hAe]; exact hD⟩, hS.F ht⟩) hS.2.2 dX11_noSlot_25
    · exact W.zret (v := 1) hx hb hr (by decide) (fun t ht hW => ⟨⟨1, (ws_7, th1_8), rfl, ⟨hT, (Or.inr rfl)⟩, by rw [ht]; exact hP, by rw [hAe]; exact hD⟩, hS.F ht⟩) hS.2.2 dX11_noSlot_25
  · refine lv_iconst (v := 1) hx hb dX11_noSlot_16 (by decide) ?_
    refine lv_goto (tgt := 21) hx hb dX11_noSlot_17 (by decide) ?_
    refine lv_iconst (v := 1) hx hb dX11_noSlot_21 (by decide) ?_
    refine ty_ki (wr := []) (wc := ([(mo, .inr (11, [.ref mw, .ref ma, .ref mf, .ref m0, .ref m1, .ref mu, .ref mv, .ref u0, .ref u1, .ref iz, .int 0, .ref mb, .int mn, .int mpt, .int mbg, .int mwr, .int mwk, .int mlf, .int men]))] ++ ws_3)) (va_runV (As := [.int 1, .int 1]) (rest := []) ⟨hx, hb, hml, hown, hts⟩ (m_X11_throwsIf l D ct S ws_3 mo mw ma mf m0 m1 mu mv u0 u1 iz mb (0 : Int32) mn mpt mbg mwr mwk mlf men (1 : Int32) (1 : Int32) _ hT h_mu h_mv h_u0 h_u1 (by decide)) (cm_V 2 hts kc_X11_throwsIf ki_RX11 kl_RX11_328 kv_X11_throwsIf kx_X11_throwsIf kd_X11_throwsIf ⟨Nat.le_of_ble_eq_true rfl, Nat.le_of_ble_eq_true rfl⟩) (ty_preE (wr := []) (wc := ([(mo, .inr (11, [.ref mw, .ref ma, .ref mf, .ref m0, .ref m1, .ref mu, .ref mv, .ref u0, .ref u1, .ref iz, .int 0, .ref mb, .int mn, .int mpt, .int mbg, .int mwr, .int mwk, .int mlf, .int men]))] ++ ws_3)) (ci := 11) (q0 := 0) hP hK hD hS hA hX rfl rfl) rfl rfl hl.1 rfl (lv_room (Nat.le_of_ble_eq_true rfl)) dX11_noSlot_22 ⟨Nat.le_of_ble_eq_true rfl, Nat.le_of_ble_eq_true rfl⟩) hP hD hS hA (fun r_11 u H locs hw_12 hP hD hS => ?_)
    obtain ⟨ws_13, th1_14⟩ := u
    obtain ⟨hT, hp_15⟩ := hw_12
    have hp_15 : ((r_11 = 0 ∧ (1 : Int32) = 0) ∨ r_11 = 1) := hp_15
    have hP : va_P D vwCl ([(mo, .inr (11, [.ref mw, .ref ma, .ref mf, .ref m0, .ref m1, .ref mu, .ref mv, .ref u0, .ref u1, .ref iz, .int th1_14, .ref mb, .int mn, .int mpt, .int mbg, .int mwr, .int mwk, .int mlf, .int men]))] ++ ws_13) H := hP
    have hD : va_D A ([(mo, .inr (11, [.ref mw, .ref ma, .ref mf, .ref m0, .ref m1, .ref mu, .ref mv, .ref u0, .ref u1, .ref iz, .int th1_14, .ref mb, .int mn, .int mpt, .int mbg, .int mwr, .int mwk, .int mlf, .int men]))] ++ ws_13) := hD
    rcases hp_15 with ⟨rfl, hz_16⟩ | rfl
    · exact absurd hz_16 (by decide)
    · exact W.zret (v := 1) hx hb hr (by decide) (fun t ht hW => ⟨⟨1, (ws_13, th1_14), rfl, ⟨hT, (Or.inr rfl)⟩, by rw [ht]; exact hP, by rw [hAe]; exact hD⟩, hS.F ht⟩) hS.2.2 dX11_noSlot_25
theorem dX11_count_0 : decode cX11_count 0 = .ok (.aload_n 0, 1) := by decide +kernel
theorem dX11_count_1 : decode cX11_count 1 = .ok (.iconst 0, 1) := by decide +kernel
theorem dX11_count_2 : decode cX11_count 2 = .ok (.putfield 49, 3) := by decide +kernel
theorem dX11_count_5 : decode cX11_count 5 = .ok (.aload_n 0, 1) := by decide +kernel
theorem dX11_count_6 : decode cX11_count 6 = .ok (.iload_n 1, 1) := by decide +kernel
theorem dX11_count_7 : decode cX11_count 7 = .ok (.i2l, 1) := by decide +kernel
theorem dX11_count_8 : decode cX11_count 8 = .ok (.lconst 0, 1) := by decide +kernel
theorem dX11_count_9 : decode cX11_count 9 = .ok (.ldc2_w 326, 3) := by decide +kernel
theorem dX11_count_12 : decode cX11_count 12 = .ok (.invokestatic 70, 3) := by decide +kernel
theorem dX11_count_15 : decode cX11_count 15 = .ok (.ifCond .ne 7, 3) := by decide +kernel
theorem dX11_count_18 : decode cX11_count 18 = .ok (.iconst 1, 1) := by decide +kernel
theorem dX11_count_19 : decode cX11_count 19 = .ok (.goto 4, 3) := by decide +kernel
theorem dX11_count_22 : decode cX11_count 22 = .ok (.iconst 0, 1) := by decide +kernel
theorem dX11_count_23 : decode cX11_count 23 = .ok (.iconst 1, 1) := by decide +kernel
theorem dX11_count_24 : decode cX11_count 24 = .ok (.invokevirtual 328, 3) := by decide +kernel
theorem dX11_count_27 : decode cX11_count 27 = .ok (.ifCond .eq 7, 3) := by decide +kernel
theorem dX11_count_30 : decode cX11_count 30 = .ok (.iconst 0, 1) := by decide +kernel
theorem dX11_count_31 : decode cX11_count 31 = .ok (.goto 12, 3) := by decide +kernel
theorem dX11_count_34 : decode cX11_count 34 = .ok (.aload_n 0, 1) := by decide +kernel
theorem dX11_count_35 : decode cX11_count 35 = .ok (.getfield 9, 3) := by decide +kernel
theorem dX11_count_38 : decode cX11_count 38 = .ok (.bipush 9, 2) := by decide +kernel
theorem dX11_count_40 : decode cX11_count 40 = .ok (.iload_n 1, 1) := by decide +kernel
theorem dX11_count_41 : decode cX11_count 41 = .ok (.iadd, 1) := by decide +kernel
theorem dX11_count_42 : decode cX11_count 42 = .ok (.iaload, 1) := by decide +kernel
theorem dX11_count_43 : decode cX11_count 43 = .ok (.ireturn, 1) := by decide +kernel
set_option maxRecDepth 100000 in
set_option maxHeartbeats 4000000 in
theorem m_X11_count (l : Launch) (D : va_G) (ct : Nat → ClassId) (S : ty_S) (ws : va_W) (mo : Nat) (mw : Nat) (ma : Nat) (mf : Nat) (m0 : Nat) (m1 : Nat) (mu : Nat) (mv : Nat) (u0 : Nat) (u1 : Nat) (iz : Nat) (mb : Nat) (th : Int32) (mn : Int32) (mpt : Int32) (mbg : Int32) (mwr : Int32) (mwk : Int32) (mlf : Int32) (men : Int32) (f : Nat → Int32) (G : Nat → Int32) (cx : Int) (p1 : Int32) (sz : Nat) (hT : ty_W ct S ws) (h_mu : S mu = some (.inr (1, 42))) (h_mv : S mv = some (.inr (1, 42))) (h_u0 : S u0 = some (.inr (1, 42))) (h_u1 : S u1 = some (.inr (1, 42))) (hR : rf_R G cx f) : Met l yX11_count (ws_ yX11_count cX11_count 2 (some .int)) ({ frames := 1, cells := 0, slots := 0, locals := 25 } : Room) (va_Pc [.ref mo, .int p1] (cmP D ct sz ([(mo, .inr (11, [.ref mw, .ref ma, .ref mf, .ref m0, .ref m1, .ref mu, .ref mv, .ref u0, .ref u1, .ref iz, .int th, .ref mb, .int mn, .int mpt, .int mbg, .int mwr, .int mwk, .int mlf, .int men])), (mw, .inl (ct 0, 958, .inl f))] ++ ws))) (va_Qi (fun (r : Int32) (u : va_W × Int32) => match u with | (u9, th1) => ty_W ct S u9) (cmB D ([(mo, .inr (11, [.ref mw, .ref ma, .ref mf, .ref m0, .ref m1, .ref mu, .ref mv, .ref u0, .ref u1, .ref iz, .int th, .ref mb, .int mn, .int mpt, .int mbg, .int mwr, .int mwk, .int mlf, .int men])), (mw, .inl (ct 0, 958, .inl f))] ++ ws) sz (fun (u : va_W × Int32) => match u with | (u9, th1) => ([(mo, .inr (11, [.ref mw, .ref ma, .ref mf, .ref m0, .ref m1, .ref mu, .ref mv, .ref u0, .ref u1, .ref iz, .int th1, .ref mb, .int mn, .int mpt, .int mbg, .int mwr, .int mwk, .int mlf, .int men])), (mw, .inl (ct 0, 958, .inl f))] ++ u9))) (va_A ([(mo, .inr (11, [.ref mw, .ref ma, .ref mf, .ref m0, .ref m1, .ref mu, .ref mv, .ref u0, .ref u1, .ref iz, .int th, .ref mb, .int mn, .int mpt, .int mbg, .int mwr, .int mwk, .int mlf, .int men])), (mw, .inl (ct 0, 958, .inl f))] ++ ws) sz)) 0 0 (va_A ([(mo, .inr (11, [.ref mw, .ref ma, .ref mf, .ref m0, .ref m1, .ref mu, .ref mv, .ref u0, .ref u1, .ref iz, .int th, .ref mb, .int mn, .int mpt, .int mbg, .int mwr, .int mwk, .int mlf, .int men])), (mw, .inl (ct 0, 958, .inl f))] ++ ws) sz) := by
  refine Met.ofW (cc := cX11_count) (maxL := 2) (ret := (some .int)) (by decide) rfl ?_
  intro p e s m args below meth c s₁ B hml hv
  obtain ⟨rfl, hsz, hP, hK, hD0, hX⟩ := hv
  have hx := B.exec
  have hb := B.bytes
  have hr := B.returns
  have hts := ws_all (atoms_spec (ws := ws_ yX11_count cX11_count 2 (some .int)) B.pre)
  have hown : s.vm.findClass RX11 = some m.cls := findClass_of_methodNamed B.named
  have hlocks := B.notSynchronized
  subst hsz
  have hD := hD0.self (sz := s.heap.size)
  generalize hAe : va_A ([(mo, .inr (11, [.ref mw, .ref ma, .ref mf, .ref m0, .ref m1, .ref mu, .ref mv, .ref u0, .ref u1, .ref iz, .int th, .ref mb, .int mn, .int mpt, .int mbg, .int mwr, .int mwk, .int mlf, .int men])), (mw, .inl (ct 0, 958, .inl f))] ++ ws) s.heap.size = A at hD hX ⊢
  have hA : ∀ q : Nat, s.heap.size ≤ q → A q := fun q h => by rw [← hAe]; exact Or.inr h
  have hS : va_S A s.heap s.heap [] := va_S.rf
  have hl := lv_entry ([.ref mo, .int p1]) (n := 2) (Nat.le_of_ble_eq_true rfl)
  rw [lg_entry_eq]
  generalize (lg_sl ([.ref mo, .int p1]) ++ List.replicate (2 - (lg_sl ([.ref mo, .int p1])).length) Slot.unset).toArray = ls at hl ⊢
  have hl : lv_has ls 2 [(0, .ref mo), (1, .int p1)] := hl
  refine lv_aload_n hx hb dX11_count_0 rfl (lv_at hl 0 rfl) ?_
  refine lv_iconst (v := 0) hx hb dX11_count_1 (by decide) ?_
  refine va_put (v := .int 0) (ty := .int) (D := D) (ci := 11) (C := RX11) (T := TX11) (N := 19) hx hb hts in_X11 tyX11 tyX11_ok nmX11 hown hK hP hD hS 0 rfl rfl 10 (by decide) (hts _ kl_RX11_49) (fun _ h9 => h9) rfl (by decide +kernel) rfl rfl (Nat.le_of_ble_eq_true rfl) dX11_count_2 (fun H locs hP hD hS => ?_)
  have hP : va_P D vwCl ([(mo, .inr (11, [.ref mw, .ref ma, .ref mf, .ref m0, .ref m1, .ref mu, .ref mv, .ref u0, .ref u1, .ref iz, .int 0, .ref mb, .int mn, .int mpt, .int mbg, .int mwr, .int mwk, .int mlf, .int men])), (mw, .inl (ct 0, 958, .inl f))] ++ ws) H := hP
  have hD : va_D A ([(mo, .inr (11, [.ref mw, .ref ma, .ref mf, .ref m0, .ref m1, .ref mu, .ref mv, .ref u0, .ref u1, .ref iz, .int 0, .ref mb, .int mn, .int mpt, .int mbg, .int mwr, .int mwk, .int mlf, .int men])), (mw, .inl (ct 0, 958, .inl f))] ++ ws) := hD
  refine lv_aload_n hx hb dX11_count_5 rfl (lv_at hl 0 rfl) ?_
  refine lv_iload_n hx hb dX11_count_6 rfl (lv_at hl 1 rfl) ?_
  refine lv_i2l hx hb dX11_count_7 rfl ?_
  refine lv_lconst (v := 0) hx hb dX11_count_8 (by decide) ?_
  refine lv_ldc2 hx hb hown (hts _ kl_RX11_326) dX11_count_9 ?_
  refine ty_ki (wr := [(mo, .inr (11, [.ref mw, .ref ma, .ref mf, .ref m0, .ref m1, .ref mu, .ref mv, .ref u0, .ref u1, .ref iz, .int 0, .ref mb, .int mn, .int mpt, .int mbg, .int mwr, .int mwk, .int mlf, .int men])), (mw, .inl (ct 0, 958, .inl f))]) (wc := ([] ++ ws)) (va_runS (As := [.long p1.toInt64, .long 0, .long 2]) (rest := [.ref mo]) ⟨hx, hb, hml, hown, hts⟩ (m_X11_in l D ct S ws p1.toInt64 (0 : Int64) (2 : Int64) _ hT) (cm_S 3 hts kc_X11_in ki_RX11 kl_RX11_70 ks_X11_in kd_X11_in ⟨Nat.le_of_ble_eq_true rfl, Nat.le_of_ble_eq_true rfl⟩) (ty_preS (wr := [(mo, .inr (11, [.ref mw, .ref ma, .ref mf, .ref m0, .ref m1, .ref mu, .ref mv, .ref u0, .ref u1, .ref iz, .int 0, .ref mb, .int mn, .int mpt, .int mbg, .int mwr, .int mwk, .int mlf, .int men])), (mw, .inl (ct 0, 958, .inl f))]) (wc := ([] ++ ws)) hP hK hD hS hA hX) rfl rfl hl.1 rfl (lv_room (Nat.le_of_ble_eq_true rfl)) dX11_count_12 ⟨Nat.le_of_ble_eq_true rfl, Nat.le_of_ble_eq_true rfl⟩) hP hD hS hA (fun r_1 u H locs hw_2 hP hD hS => ?_)
  obtain ⟨ws_3, rfl⟩ : ∃ z, z = u := ⟨_, rfl⟩
  obtain ⟨hT, rfl⟩ := hw_2
  have hP : va_P D vwCl ([(mo, .inr (11, [.ref mw, .ref ma, .ref mf, .ref m0, .ref m1, .ref mu, .ref mv, .ref u0, .ref u1, .ref iz, .int 0, .ref mb, .int mn, .int mpt, .int mbg, .int mwr, .int mwk, .int mlf, .int men])), (mw, .inl (ct 0, 958, .inl f))] ++ ws_3) H := hP
  have hD : va_D A ([(mo, .inr (11, [.ref mw, .ref ma, .ref mf, .ref m0, .ref m1, .ref mu, .ref mv, .ref u0, .ref u1, .ref iz, .int 0, .ref mb, .int mn, .int mpt, .int mbg, .int mwr, .int mwk, .int mlf, .int men])), (mw, .inl (ct 0, 958, .inl f))] ++ ws_3) := hD
  refine lv_if_ne (tgt := 22) hx hb dX11_count_15 (by decide) (fun hc_4 => ?_) (fun hc_4 => ?_)
  · refine lv_iconst (v := 0) hx hb dX11_count_22 (by decide) ?_
    refine lv_iconst (v := 1) hx hb dX11_count_23 (by decide) ?_
    have hP : va_P D vwCl ([(mw, .inl (ct 0, 958, .inl f)), (mo, .inr (11, [.ref mw, .ref ma, .ref mf, .ref m0, .ref m1, .ref mu, .ref mv, .ref u0, .ref u1, .ref iz, .int 0, .ref mb, .int mn, .int mpt, .int mbg, .int mwr, .int mwk, .int mlf, .int men]))] ++ ws_3) H := ty_permP hP (ty_ordp (E := [(mo, .inr (11, [.ref mw, .ref ma, .ref mf, .ref m0, .ref m1, .ref mu, .ref mv, .ref u0, .ref u1, .ref iz, .int 0, .ref mb, .int mn, .int mpt, .int mbg, .int mwr, .int mwk, .int mlf, .int men])), (mw, .inl (ct 0, 958, .inl f))]) (E2 := [(mw, .inl (ct 0, 958, .inl f)), (mo, .inr (11, [.ref mw, .ref ma, .ref mf, .ref m0, .ref m1, .ref mu, .ref mv, .ref u0, .ref u1, .ref iz, .int 0, .ref mb, .int mn, .int mpt, .int mbg, .int mwr, .int mwk, .int mlf, .int men]))]) (n := 2) [1, 0] rfl rfl (by decide))
    have hD : va_D A ([(mw, .inl (ct 0, 958, .inl f)), (mo, .inr (11, [.ref mw, .ref ma, .ref mf, .ref m0, .ref m1, .ref mu, .ref mv, .ref u0, .ref u1, .ref iz, .int 0, .ref mb, .int mn, .int mpt, .int mbg, .int mwr, .int mwk, .int mlf, .int men]))] ++ ws_3) := ty_permD hD (ty_ordp (E := [(mo, .inr (11, [.ref mw, .ref ma, .ref mf, .ref m0, .ref m1, .ref mu, .ref mv, .ref u0, .ref u1, .ref iz, .int 0, .ref mb, .int mn, .int mpt, .int mbg, .int mwr, .int mwk, .int mlf, .int men])), (mw, .inl (ct 0, 958, .inl f))]) (E2 := [(mw, .inl (ct 0, 958, .inl f)), (mo, .inr (11, [.ref mw, .ref ma, .ref mf, .ref m0, .ref m1, .ref mu, .ref mv, .ref u0, .ref u1, .ref iz, .int 0, .ref mb, .int mn, .int mpt, .int mbg, .int mwr, .int mwk, .int mlf, .int men]))]) (n := 2) [1, 0] rfl rfl (by decide))
    refine ty_ki (wr := [(mw, .inl (ct 0, 958, .inl f))]) (wc := ([(mo, .inr (11, [.ref mw, .ref ma, .ref mf, .ref m0, .ref m1, .ref mu, .ref mv, .ref u0, .ref u1, .ref iz, .int 0, .ref mb, .int mn, .int mpt, .int mbg, .int mwr, .int mwk, .int mlf, .int men]))] ++ ws_3)) (va_runV (As := [.int 0, .int 1]) (rest := []) ⟨hx, hb, hml, hown, hts⟩ (m_X11_throwsIf l D ct S ws_3 mo mw ma mf m0 m1 mu mv u0 u1 iz mb (0 : Int32) mn mpt mbg mwr mwk mlf men (0 : Int32) (1 : Int32) _ hT h_mu h_mv h_u0 h_u1 (by decide)) (cm_V 2 hts kc_X11_throwsIf ki_RX11 kl_RX11_328 kv_X11_throwsIf kx_X11_throwsIf kd_X11_throwsIf ⟨Nat.le_of_ble_eq_true rfl, Nat.le_of_ble_eq_true rfl⟩) (ty_preE (wr := [(mw, .inl (ct 0, 958, .inl f))]) (wc := ([(mo, .inr (11, [.ref mw, .ref ma, .ref mf, .ref m0, .ref m1, .ref mu, .ref mv, .ref u0, .ref u1, .ref iz, .int 0, .ref mb, .int mn, .int mpt, .int mbg, .int mwr, .int mwk, .int mlf, .int men]))] ++ ws_3)) (ci := 11) (q0 := 1) hP hK hD hS hA hX rfl rfl) rfl rfl hl.1 rfl (lv_room (Nat.le_of_ble_eq_true rfl)) dX11_count_24 ⟨Nat.le_of_ble_eq_true rfl, Nat.le_of_ble_eq_true rfl⟩) hP hD hS hA (fun r_5 u H locs hw_6 hP hD hS => ?_)
    obtain ⟨ws_7, th1_8⟩ := u
    obtain ⟨hT, hp_9⟩ := hw_6
    have hp_9 : ((r_5 = 0 ∧ (0 : Int32) = 0) ∨ r_5 = 1) := hp_9
    have hP : va_P D vwCl ([(mw, .inl (ct 0, 958, .inl f)), (mo, .inr (11, [.ref mw, .ref ma, .ref mf, .ref m0, .ref m1, .ref mu, .ref mv, .ref u0, .ref u1, .ref iz, .int th1_8, .ref mb, .int mn, .int mpt, .int mbg, .int mwr, .int mwk, .int mlf, .int men]))] ++ ws_7) H := hP
    have hD : va_D A ([(mw, .inl (ct 0, 958, .inl f)), (mo, .inr (11, [.ref mw, .ref ma, .ref mf, .ref m0, .ref m1, .ref mu, .ref mv, .ref u0, .ref u1, .ref iz, .int th1_8, .ref mb, .int mn, .int mpt, .int mbg, .int mwr, .int mwk, .int mlf, .int men]))] ++ ws_7) := hD
    rcases hp_9 with ⟨rfl, hz_10⟩ | rfl
    · refine lv_if_eq (tgt := 34) hx hb dX11_count_27 (by decide) (fun _ => ?_) (fun hc => absurd (by decide) hc)
      refine lv_aload_n hx hb dX11_count_34 rfl (lv_at hl 0 rfl) ?_
      refine va_get (v := .ref mw) (D := D) (ci := 11) (C := RX11) (T := TX11) (N := 19) hx hb hts in_X11 hown hK hP 1 rfl rfl 0 (by decide) (hts _ kl_RX11_9) (fun _ h9 => h9) rfl dX11_count_35 ?_
      refine lv_bipush (v := 9) hx hb dX11_count_38 (by decide) ?_
      refine lv_iload_n hx hb dX11_count_40 rfl (lv_at hl 1 rfl) ?_
      refine lv_iadd hx hb dX11_count_41 ?_
      refine va_iald hx hb hK hP 0 0 rfl rfl (rf_in1 (by have := (rf_rngc (L := 0) (U := 2) (by decide) (by decide) hc_4); have := rf_add9 (a := 9) (A := 9) (B := 2) (by decide) this (by omega) (by omega); omega)) dX11_count_42 ?_
      have hP : va_P D vwCl ([(mo, .inr (11, [.ref mw, .ref ma, .ref mf, .ref m0, .ref m1, .ref mu, .ref mv, .ref u0, .ref u1, .ref iz, .int th1_8, .ref mb, .int mn, .int mpt, .int mbg, .int mwr, .int mwk, .int mlf, .int men])), (mw, .inl (ct 0, 958, .inl f))] ++ ws_7) H := ty_permP hP (ty_ordp (E := [(mw, .inl (ct 0, 958, .inl f)), (mo, .inr (11, [.ref mw, .ref ma, .ref mf, .ref m0, .ref m1, .ref mu, .ref mv, .ref u0, .ref u1, .ref iz, .int th1_8, .ref mb, .int mn, .int mpt, .int mbg, .int mwr, .int mwk, .int mlf, .int men]))]) (E2 := [(mo, .inr (11, [.ref mw, .ref ma, .ref mf, .ref m0, .ref m1, .ref mu, .ref mv, .ref u0, .ref u1, .ref iz, .int th1_8, .ref mb, .int mn, .int mpt, .int mbg, .int mwr, .int mwk, .int mlf, .int men])), (mw, .inl (ct 0, 958, .inl f))]) (n := 2) [1, 0] rfl rfl (by decide))
      have hD : va_D A ([(mo, .inr (11, [.ref mw, .ref ma, .ref mf, .ref m0, .ref m1, .ref mu, .ref mv, .ref u0, .ref u1, .ref iz, .int th1_8, .ref mb, .int mn, .int mpt, .int mbg, .int mwr, .int mwk, .int mlf, .int men])), (mw, .inl (ct 0, 958, .inl f))] ++ ws_7) := ty_permD hD (ty_ordp (E := [(mw, .inl (ct 0, 958, .inl f)), (mo, .inr (11, [.ref mw, .ref ma, .ref mf, .ref m0, .ref m1, .ref mu, .ref mv, .ref u0, .ref u1, .ref iz, .int th1_8, .ref mb, .int mn, .int mpt, .int mbg, .int mwr, .int mwk, .int mlf, .int men]))]) (E2 := [(mo, .inr (11, [.ref mw, .ref ma, .ref mf, .ref m0, .ref m1, .ref mu, .ref mv, .ref u0, .ref u1, .ref iz, .int th1_8, .ref mb, .int mn, .int mpt, .int mbg, .int mwr, .int mwk, .int mlf, .int men])), (mw, .inl (ct 0, 958, .inl f))]) (n := 2) [1, 0] rfl rfl (by decide))
      exact W.iret (v := (f (9 + p1).toNatClampNeg)) hx hb hr (fun t ht hW => ⟨⟨(f (9 + p1).toNatClampNeg), (ws_7, th1_8), rfl, hT, by rw [ht]; exact hP, by rw [hAe]; exact hD⟩, hS.F ht⟩) hS.2.2 dX11_count_43
    · refine lv_if_eq (tgt := 34) hx hb dX11_count_27 (by decide) (fun hc => absurd hc (by decide)) (fun _ => ?_)
      refine lv_iconst (v := 0) hx hb dX11_count_30 (by decide) ?_
      refine lv_goto (tgt := 43) hx hb dX11_count_31 (by decide) ?_
      have hP : va_P D vwCl ([(mo, .inr (11, [.ref mw, .ref ma, .ref mf, .ref m0, .ref m1, .ref mu, .ref mv, .ref u0, .ref u1, .ref iz, .int th1_8, .ref mb, .int mn, .int mpt, .int mbg, .int mwr, .int mwk, .int mlf, .int men])), (mw, .inl (ct 0, 958, .inl f))] ++ ws_7) H := ty_permP hP (ty_ordp (E := [(mw, .inl (ct 0, 958, .inl f)), (mo, .inr (11, [.ref mw, .ref ma, .ref mf, .ref m0, .ref m1, .ref mu, .ref mv, .ref u0, .ref u1, .ref iz, .int th1_8, .ref mb, .int mn, .int mpt, .int mbg, .int mwr, .int mwk, .int mlf, .int men]))]) (E2 := [(mo, .inr (11, [.ref mw, .ref ma, .ref mf, .ref m0, .ref m1, .ref mu, .ref mv, .ref u0, .ref u1, .ref iz, .int th1_8, .ref mb, .int mn, .int mpt, .int mbg, .int mwr, .int mwk, .int mlf, .int men])), (mw, .inl (ct 0, 958, .inl f))]) (n := 2) [1, 0] rfl rfl (by decide))
      have hD : va_D A ([(mo, .inr (11, [.ref mw, .ref ma, .ref mf, .ref m0, .ref m1, .ref mu, .ref mv, .ref u0, .ref u1, .ref iz, .int th1_8, .ref mb, .int mn, .int mpt, .int mbg, .int mwr, .int mwk, .int mlf, .int men])), (mw, .inl (ct 0, 958, .inl f))] ++ ws_7) := ty_permD hD (ty_ordp (E := [(mw, .inl (ct 0, 958, .inl f)), (mo, .inr (11, [.ref mw, .ref ma, .ref mf, .ref m0, .ref m1, .ref mu, .ref mv, .ref u0, .ref u1, .ref iz, .int th1_8, .ref mb, .int mn, .int mpt, .int mbg, .int mwr, .int mwk, .int mlf, .int men]))]) (E2 := [(mo, .inr (11, [.ref mw, .ref ma, .ref mf, .ref m0, .ref m1, .ref mu, .ref mv, .ref u0, .ref u1, .ref iz, .int th1_8, .ref mb, .int mn, .int mpt, .int mbg, .int mwr, .int mwk, .int mlf, .int men])), (mw, .inl (ct 0, 958, .inl f))]) (n := 2) [1, 0] rfl rfl (by decide))
      exact W.iret (v := 0) hx hb hr (fun t ht hW => ⟨⟨0, (ws_7, th1_8), rfl, hT, by rw [ht]; exact hP, by rw [hAe]; exact hD⟩, hS.F ht⟩) hS.2.2 dX11_count_43
  · refine lv_iconst (v := 1) hx hb dX11_count_18 (by decide) ?_
    refine lv_goto (tgt := 23) hx hb dX11_count_19 (by decide) ?_
    refine lv_iconst (v := 1) hx hb dX11_count_23 (by decide) ?_
    have hP : va_P D vwCl ([(mw, .inl (ct 0, 958, .inl f)), (mo, .inr (11, [.ref mw, .ref ma, .ref mf, .ref m0, .ref m1, .ref mu, .ref mv, .ref u0, .ref u1, .ref iz, .int 0, .ref mb, .int mn, .int mpt, .int mbg, .int mwr, .int mwk, .int mlf, .int men]))] ++ ws_3) H := ty_permP hP (ty_ordp (E := [(mo, .inr (11, [.ref mw, .ref ma, .ref mf, .ref m0, .ref m1, .ref mu, .ref mv, .ref u0, .ref u1, .ref iz, .int 0, .ref mb, .int mn, .int mpt, .int mbg, .int mwr, .int mwk, .int mlf, .int men])), (mw, .inl (ct 0, 958, .inl f))]) (E2 := [(mw, .inl (ct 0, 958, .inl f)), (mo, .inr (11, [.ref mw, .ref ma, .ref mf, .ref m0, .ref m1, .ref mu, .ref mv, .ref u0, .ref u1, .ref iz, .int 0, .ref mb, .int mn, .int mpt, .int mbg, .int mwr, .int mwk, .int mlf, .int men]))]) (n := 2) [1, 0] rfl rfl (by decide))
    have hD : va_D A ([(mw, .inl (ct 0, 958, .inl f)), (mo, .inr (11, [.ref mw, .ref ma, .ref mf, .ref m0, .ref m1, .ref mu, .ref mv, .ref u0, .ref u1, .ref iz, .int 0, .ref mb, .int mn, .int mpt, .int mbg, .int mwr, .int mwk, .int mlf, .int men]))] ++ ws_3) := ty_permD hD (ty_ordp (E := [(mo, .inr (11, [.ref mw, .ref ma, .ref mf, .ref m0, .ref m1, .ref mu, .ref mv, .ref u0, .ref u1, .ref iz, .int 0, .ref mb, .int mn, .int mpt, .int mbg, .int mwr, .int mwk, .int mlf, .int men])), (mw, .inl (ct 0, 958, .inl f))]) (E2 := [(mw, .inl (ct 0, 958, .inl f)), (mo, .inr (11, [.ref mw, .ref ma, .ref mf, .ref m0, .ref m1, .ref mu, .ref mv, .ref u0, .ref u1, .ref iz, .int 0, .ref mb, .int mn, .int mpt, .int mbg, .int mwr, .int mwk, .int mlf, .int men]))]) (n := 2) [1, 0] rfl rfl (by decide))
    refine ty_ki (wr := [(mw, .inl (ct 0, 958, .inl f))]) (wc := ([(mo, .inr (11, [.ref mw, .ref ma, .ref mf, .ref m0, .ref m1, .ref mu, .ref mv, .ref u0, .ref u1, .ref iz, .int 0, .ref mb, .int mn, .int mpt, .int mbg, .int mwr, .int mwk, .int mlf, .int men]))] ++ ws_3)) (va_runV (As := [.int 1, .int 1]) (rest := []) ⟨hx, hb, hml, hown, hts⟩ (m_X11_throwsIf l D ct S ws_3 mo mw ma mf m0 m1 mu mv u0 u1 iz mb (0 : Int32) mn mpt mbg mwr mwk mlf men (1 : Int32) (1 : Int32) _ hT h_mu h_mv h_u0 h_u1 (by decide)) (cm_V 2 hts kc_X11_throwsIf ki_RX11 kl_RX11_328 kv_X11_throwsIf kx_X11_throwsIf kd_X11_throwsIf ⟨Nat.le_of_ble_eq_true rfl, Nat.le_of_ble_eq_true rfl⟩) (ty_preE (wr := [(mw, .inl (ct 0, 958, .inl f))]) (wc := ([(mo, .inr (11, [.ref mw, .ref ma, .ref mf, .ref m0, .ref m1, .ref mu, .ref mv, .ref u0, .ref u1, .ref iz, .int 0, .ref mb, .int mn, .int mpt, .int mbg, .int mwr, .int mwk, .int mlf, .int men]))] ++ ws_3)) (ci := 11) (q0 := 1) hP hK hD hS hA hX rfl rfl) rfl rfl hl.1 rfl (lv_room (Nat.le_of_ble_eq_true rfl)) dX11_count_24 ⟨Nat.le_of_ble_eq_true rfl, Nat.le_of_ble_eq_true rfl⟩) hP hD hS hA (fun r_11 u H locs hw_12 hP hD hS => ?_)
    obtain ⟨ws_13, th1_14⟩ := u
    obtain ⟨hT, hp_15⟩ := hw_12
    have hp_15 : ((r_11 = 0 ∧ (1 : Int32) = 0) ∨ r_11 = 1) := hp_15
    have hP : va_P D vwCl ([(mw, .inl (ct 0, 958, .inl f)), (mo, .inr (11, [.ref mw, .ref ma, .ref mf, .ref m0, .ref m1, .ref mu, .ref mv, .ref u0, .ref u1, .ref iz, .int th1_14, .ref mb, .int mn, .int mpt, .int mbg, .int mwr, .int mwk, .int mlf, .int men]))] ++ ws_13) H := hP
    have hD : va_D A ([(mw, .inl (ct 0, 958, .inl f)), (mo, .inr (11, [.ref mw, .ref ma, .ref mf, .ref m0, .ref m1, .ref mu, .ref mv, .ref u0, .ref u1, .ref iz, .int th1_14, .ref mb, .int mn, .int mpt, .int mbg, .int mwr, .int mwk, .int mlf, .int men]))] ++ ws_13) := hD
    rcases hp_15 with ⟨rfl, hz_16⟩ | rfl
    · exact absurd hz_16 (by decide)
    · refine lv_if_eq (tgt := 34) hx hb dX11_count_27 (by decide) (fun hc => absurd hc (by decide)) (fun _ => ?_)
      refine lv_iconst (v := 0) hx hb dX11_count_30 (by decide) ?_
      refine lv_goto (tgt := 43) hx hb dX11_count_31 (by decide) ?_
      have hP : va_P D vwCl ([(mo, .inr (11, [.ref mw, .ref ma, .ref mf, .ref m0, .ref m1, .ref mu, .ref mv, .ref u0, .ref u1, .ref iz, .int th1_14, .ref mb, .int mn, .int mpt, .int mbg, .int mwr, .int mwk, .int mlf, .int men])), (mw, .inl (ct 0, 958, .inl f))] ++ ws_13) H := ty_permP hP (ty_ordp (E := [(mw, .inl (ct 0, 958, .inl f)), (mo, .inr (11, [.ref mw, .ref ma, .ref mf, .ref m0, .ref m1, .ref mu, .ref mv, .ref u0, .ref u1, .ref iz, .int th1_14, .ref mb, .int mn, .int mpt, .int mbg, .int mwr, .int mwk, .int mlf, .int men]))]) (E2 := [(mo, .inr (11, [.ref mw, .ref ma, .ref mf, .ref m0, .ref m1, .ref mu, .ref mv, .ref u0, .ref u1, .ref iz, .int th1_14, .ref mb, .int mn, .int mpt, .int mbg, .int mwr, .int mwk, .int mlf, .int men])), (mw, .inl (ct 0, 958, .inl f))]) (n := 2) [1, 0] rfl rfl (by decide))
      have hD : va_D A ([(mo, .inr (11, [.ref mw, .ref ma, .ref mf, .ref m0, .ref m1, .ref mu, .ref mv, .ref u0, .ref u1, .ref iz, .int th1_14, .ref mb, .int mn, .int mpt, .int mbg, .int mwr, .int mwk, .int mlf, .int men])), (mw, .inl (ct 0, 958, .inl f))] ++ ws_13) := ty_permD hD (ty_ordp (E := [(mw, .inl (ct 0, 958, .inl f)), (mo, .inr (11, [.ref mw, .ref ma, .ref mf, .ref m0, .ref m1, .ref mu, .ref mv, .ref u0, .ref u1, .ref iz, .int th1_14, .ref mb, .int mn, .int mpt, .int mbg, .int mwr, .int mwk, .int mlf, .int men]))]) (E2 := [(mo, .inr (11, [.ref mw, .ref ma, .ref mf, .ref m0, .ref m1, .ref mu, .ref mv, .ref u0, .ref u1, .ref iz, .int th1_14, .ref mb, .int mn, .int mpt, .int mbg, .int mwr, .int mwk, .int mlf, .int men])), (mw, .inl (ct 0, 958, .inl f))]) (n := 2) [1, 0] rfl rfl (by decide))
      exact W.iret (v := 0) hx hb hr (fun t ht hW => ⟨⟨0, (ws_13, th1_14), rfl, hT, by rw [ht]; exact hP, by rw [hAe]; exact hD⟩, hS.F ht⟩) hS.2.2 dX11_count_43
theorem dX11_setting_0 : decode cX11_setting 0 = .ok (.aload_n 0, 1) := by decide +kernel
theorem dX11_setting_1 : decode cX11_setting 1 = .ok (.iconst 0, 1) := by decide +kernel
theorem dX11_setting_2 : decode cX11_setting 2 = .ok (.putfield 49, 3) := by decide +kernel
theorem dX11_setting_5 : decode cX11_setting 5 = .ok (.aload_n 0, 1) := by decide +kernel
theorem dX11_setting_6 : decode cX11_setting 6 = .ok (.iload_n 1, 1) := by decide +kernel
theorem dX11_setting_7 : decode cX11_setting 7 = .ok (.i2l, 1) := by decide +kernel
theorem dX11_setting_8 : decode cX11_setting 8 = .ok (.lconst 0, 1) := by decide +kernel
theorem dX11_setting_9 : decode cX11_setting 9 = .ok (.ldc2_w 332, 3) := by decide +kernel
theorem dX11_setting_12 : decode cX11_setting 12 = .ok (.invokestatic 70, 3) := by decide +kernel
theorem dX11_setting_15 : decode cX11_setting 15 = .ok (.ifCond .ne 7, 3) := by decide +kernel
theorem dX11_setting_18 : decode cX11_setting 18 = .ok (.iconst 1, 1) := by decide +kernel
theorem dX11_setting_19 : decode cX11_setting 19 = .ok (.goto 4, 3) := by decide +kernel
theorem dX11_setting_22 : decode cX11_setting 22 = .ok (.iconst 0, 1) := by decide +kernel
theorem dX11_setting_23 : decode cX11_setting 23 = .ok (.iconst 1, 1) := by decide +kernel
theorem dX11_setting_24 : decode cX11_setting 24 = .ok (.invokevirtual 328, 3) := by decide +kernel
theorem dX11_setting_27 : decode cX11_setting 27 = .ok (.ifCond .eq 7, 3) := by decide +kernel
theorem dX11_setting_30 : decode cX11_setting 30 = .ok (.iconst 0, 1) := by decide +kernel
theorem dX11_setting_31 : decode cX11_setting 31 = .ok (.goto 9, 3) := by decide +kernel
theorem dX11_setting_34 : decode cX11_setting 34 = .ok (.aload_n 0, 1) := by decide +kernel
theorem dX11_setting_35 : decode cX11_setting 35 = .ok (.getfield 9, 3) := by decide +kernel
theorem dX11_setting_38 : decode cX11_setting 38 = .ok (.iload_n 1, 1) := by decide +kernel
theorem dX11_setting_39 : decode cX11_setting 39 = .ok (.iaload, 1) := by decide +kernel
theorem dX11_setting_40 : decode cX11_setting 40 = .ok (.ireturn, 1) := by decide +kernel
set_option maxRecDepth 100000 in
set_option maxHeartbeats 4000000 in
theorem m_X11_setting (l : Launch) (D : va_G) (ct : Nat → ClassId) (S : ty_S) (ws : va_W) (mo : Nat) (mw : Nat) (ma : Nat) (mf : Nat) (m0 : Nat) (m1 : Nat) (mu : Nat) (mv : Nat) (u0 : Nat) (u1 : Nat) (iz : Nat) (mb : Nat) (th : Int32) (mn : Int32) (mpt : Int32) (mbg : Int32) (mwr : Int32) (mwk : Int32) (mlf : Int32) (men : Int32) (f : Nat → Int32) (G : Nat → Int32) (cx : Int) (p1 : Int32) (sz : Nat) (hT : ty_W ct S ws) (h_mu : S mu = some (.inr (1, 42))) (h_mv : S mv = some (.inr (1, 42))) (h_u0 : S u0 = some (.inr (1, 42))) (h_u1 : S u1 = some (.inr (1, 42))) (hR : rf_R G cx f) : Met l yX11_setting (ws_ yX11_setting cX11_setting 2 (some .int)) ({ frames := 1, cells := 0, slots := 0, locals := 25 } : Room) (va_Pc [.ref mo, .int p1] (cmP D ct sz ([(mo, .inr (11, [.ref mw, .ref ma, .ref mf, .ref m0, .ref m1, .ref mu, .ref mv, .ref u0, .ref u1, .ref iz, .int th, .ref mb, .int mn, .int mpt, .int mbg, .int mwr, .int mwk, .int mlf, .int men])), (mw, .inl (ct 0, 958, .inl f))] ++ ws))) (va_Qi (fun (r : Int32) (u : va_W × Int32) => match u with | (u9, th1) => ty_W ct S u9) (cmB D ([(mo, .inr (11, [.ref mw, .ref ma, .ref mf, .ref m0, .ref m1, .ref mu, .ref mv, .ref u0, .ref u1, .ref iz, .int th, .ref mb, .int mn, .int mpt, .int mbg, .int mwr, .int mwk, .int mlf, .int men])), (mw, .inl (ct 0, 958, .inl f))] ++ ws) sz (fun (u : va_W × Int32) => match u with | (u9, th1) => ([(mo, .inr (11, [.ref mw, .ref ma, .ref mf, .ref m0, .ref m1, .ref mu, .ref mv, .ref u0, .ref u1, .ref iz, .int th1, .ref mb, .int mn, .int mpt, .int mbg, .int mwr, .int mwk, .int mlf, .int men])), (mw, .inl (ct 0, 958, .inl f))] ++ u9))) (va_A ([(mo, .inr (11, [.ref mw, .ref ma, .ref mf, .ref m0, .ref m1, .ref mu, .ref mv, .ref u0, .ref u1, .ref iz, .int th, .ref mb, .int mn, .int mpt, .int mbg, .int mwr, .int mwk, .int mlf, .int men])), (mw, .inl (ct 0, 958, .inl f))] ++ ws) sz)) 0 0 (va_A ([(mo, .inr (11, [.ref mw, .ref ma, .ref mf, .ref m0, .ref m1, .ref mu, .ref mv, .ref u0, .ref u1, .ref iz, .int th, .ref mb, .int mn, .int mpt, .int mbg, .int mwr, .int mwk, .int mlf, .int men])), (mw, .inl (ct 0, 958, .inl f))] ++ ws) sz) := by
  refine Met.ofW (cc := cX11_setting) (maxL := 2) (ret := (some .int)) (by decide) rfl ?_
  intro p e s m args below meth c s₁ B hml hv
  obtain ⟨rfl, hsz, hP, hK, hD0, hX⟩ := hv
  have hx := B.exec
  have hb := B.bytes
  have hr := B.returns
  have hts := ws_all (atoms_spec (ws := ws_ yX11_setting cX11_setting 2 (some .int)) B.pre)
  have hown : s.vm.findClass RX11 = some m.cls := findClass_of_methodNamed B.named
  have hlocks := B.notSynchronized
  subst hsz
  have hD := hD0.self (sz := s.heap.size)
  generalize hAe : va_A ([(mo, .inr (11, [.ref mw, .ref ma, .ref mf, .ref m0, .ref m1, .ref mu, .ref mv, .ref u0, .ref u1, .ref iz, .int th, .ref mb, .int mn, .int mpt, .int mbg, .int mwr, .int mwk, .int mlf, .int men])), (mw, .inl (ct 0, 958, .inl f))] ++ ws) s.heap.size = A at hD hX ⊢
  have hA : ∀ q : Nat, s.heap.size ≤ q → A q := fun q h => by rw [← hAe]; exact Or.inr h
  have hS : va_S A s.heap s.heap [] := va_S.rf
  have hl := lv_entry ([.ref mo, .int p1]) (n := 2) (Nat.le_of_ble_eq_true rfl)
  rw [lg_entry_eq]
  generalize (lg_sl ([.ref mo, .int p1]) ++ List.replicate (2 - (lg_sl ([.ref mo, .int p1])).length) Slot.unset).toArray = ls at hl ⊢
  have hl : lv_has ls 2 [(0, .ref mo), (1, .int p1)] := hl
  refine lv_aload_n hx hb dX11_setting_0 rfl (lv_at hl 0 rfl) ?_
  refine lv_iconst (v := 0) hx hb dX11_setting_1 (by decide) ?_
  refine va_put (v := .int 0) (ty := .int) (D := D) (ci := 11) (C := RX11) (T := TX11) (N := 19) hx hb hts in_X11 tyX11 tyX11_ok nmX11 hown hK hP hD hS 0 rfl rfl 10 (by decide) (hts _ kl_RX11_49) (fun _ h9 => h9) rfl (by decide +kernel) rfl rfl (Nat.le_of_ble_eq_true rfl) dX11_setting_2 (fun H locs hP hD hS => ?_)
  have hP : va_P D vwCl ([(mo, .inr (11, [.ref mw, .ref ma, .ref mf, .ref m0, .ref m1, .ref mu, .ref mv, .ref u0, .ref u1, .ref iz, .int 0, .ref mb, .int mn, .int mpt, .int mbg, .int mwr, .int mwk, .int mlf, .int men])), (mw, .inl (ct 0, 958, .inl f))] ++ ws) H := hP
  have hD : va_D A ([(mo, .inr (11, [.ref mw, .ref ma, .ref mf, .ref m0, .ref m1, .ref mu, .ref mv, .ref u0, .ref u1, .ref iz, .int 0, .ref mb, .int mn, .int mpt, .int mbg, .int mwr, .int mwk, .int mlf, .int men])), (mw, .inl (ct 0, 958, .inl f))] ++ ws) := hD
  refine lv_aload_n hx hb dX11_setting_5 rfl (lv_at hl 0 rfl) ?_
  refine lv_iload_n hx hb dX11_setting_6 rfl (lv_at hl 1 rfl) ?_
  refine lv_i2l hx hb dX11_setting_7 rfl ?_
  refine lv_lconst (v := 0) hx hb dX11_setting_8 (by decide) ?_
  refine lv_ldc2 hx hb hown (hts _ kl_RX11_332) dX11_setting_9 ?_
  refine ty_ki (wr := [(mo, .inr (11, [.ref mw, .ref ma, .ref mf, .ref m0, .ref m1, .ref mu, .ref mv, .ref u0, .ref u1, .ref iz, .int 0, .ref mb, .int mn, .int mpt, .int mbg, .int mwr, .int mwk, .int mlf, .int men])), (mw, .inl (ct 0, 958, .inl f))]) (wc := ([] ++ ws)) (va_runS (As := [.long p1.toInt64, .long 0, .long 7]) (rest := [.ref mo]) ⟨hx, hb, hml, hown, hts⟩ (m_X11_in l D ct S ws p1.toInt64 (0 : Int64) (7 : Int64) _ hT) (cm_S 3 hts kc_X11_in ki_RX11 kl_RX11_70 ks_X11_in kd_X11_in ⟨Nat.le_of_ble_eq_true rfl, Nat.le_of_ble_eq_true rfl⟩) (ty_preS (wr := [(mo, .inr (11, [.ref mw, .ref ma, .ref mf, .ref m0, .ref m1, .ref mu, .ref mv, .ref u0, .ref u1, .ref iz, .int 0, .ref mb, .int mn, .int mpt, .int mbg, .int mwr, .int mwk, .int mlf, .int men])), (mw, .inl (ct 0, 958, .inl f))]) (wc := ([] ++ ws)) hP hK hD hS hA hX) rfl rfl hl.1 rfl (lv_room (Nat.le_of_ble_eq_true rfl)) dX11_setting_12 ⟨Nat.le_of_ble_eq_true rfl, Nat.le_of_ble_eq_true rfl⟩) hP hD hS hA (fun r_1 u H locs hw_2 hP hD hS => ?_)
  obtain ⟨ws_3, rfl⟩ : ∃ z, z = u := ⟨_, rfl⟩
  obtain ⟨hT, rfl⟩ := hw_2
  have hP : va_P D vwCl ([(mo, .inr (11, [.ref mw, .ref ma, .ref mf, .ref m0, .ref m1, .ref mu, .ref mv, .ref u0, .ref u1, .ref iz, .int 0, .ref mb, .int mn, .int mpt, .int mbg, .int mwr, .int mwk, .int mlf, .int men])), (mw, .inl (ct 0, 958, .inl f))] ++ ws_3) H := hP
  have hD : va_D A ([(mo, .inr (11, [.ref mw, .ref ma, .ref mf, .ref m0, .ref m1, .ref mu, .ref mv, .ref u0, .ref u1, .ref iz, .int 0, .ref mb, .int mn, .int mpt, .int mbg, .int mwr, .int mwk, .int mlf, .int men])), (mw, .inl (ct 0, 958, .inl f))] ++ ws_3) := hD
  refine lv_if_ne (tgt := 22) hx hb dX11_setting_15 (by decide) (fun hc_4 => ?_) (fun hc_4 => ?_)
  · refine lv_iconst (v := 0) hx hb dX11_setting_22 (by decide) ?_
    refine lv_iconst (v := 1) hx hb dX11_setting_23 (by decide) ?_
    have hP : va_P D vwCl ([(mw, .inl (ct 0, 958, .inl f)), (mo, .inr (11, [.ref mw, .ref ma, .ref mf, .ref m0, .ref m1, .ref mu, .ref mv, .ref u0, .ref u1, .ref iz, .int 0, .ref mb, .int mn, .int mpt, .int mbg, .int mwr, .int mwk, .int mlf, .int men]))] ++ ws_3) H := ty_permP hP (ty_ordp (E := [(mo, .inr (11, [.ref mw, .ref ma, .ref mf, .ref m0, .ref m1, .ref mu, .ref mv, .ref u0, .ref u1, .ref iz, .int 0, .ref mb, .int mn, .int mpt, .int mbg, .int mwr, .int mwk, .int mlf, .int men])), (mw, .inl (ct 0, 958, .inl f))]) (E2 := [(mw, .inl (ct 0, 958, .inl f)), (mo, .inr (11, [.ref mw, .ref ma, .ref mf, .ref m0, .ref m1, .ref mu, .ref mv, .ref u0, .ref u1, .ref iz, .int 0, .ref mb, .int mn, .int mpt, .int mbg, .int mwr, .int mwk, .int mlf, .int men]))]) (n := 2) [1, 0] rfl rfl (by decide))
    have hD : va_D A ([(mw, .inl (ct 0, 958, .inl f)), (mo, .inr (11, [.ref mw, .ref ma, .ref mf, .ref m0, .ref m1, .ref mu, .ref mv, .ref u0, .ref u1, .ref iz, .int 0, .ref mb, .int mn, .int mpt, .int mbg, .int mwr, .int mwk, .int mlf, .int men]))] ++ ws_3) := ty_permD hD (ty_ordp (E := [(mo, .inr (11, [.ref mw, .ref ma, .ref mf, .ref m0, .ref m1, .ref mu, .ref mv, .ref u0, .ref u1, .ref iz, .int 0, .ref mb, .int mn, .int mpt, .int mbg, .int mwr, .int mwk, .int mlf, .int men])), (mw, .inl (ct 0, 958, .inl f))]) (E2 := [(mw, .inl (ct 0, 958, .inl f)), (mo, .inr (11, [.ref mw, .ref ma, .ref mf, .ref m0, .ref m1, .ref mu, .ref mv, .ref u0, .ref u1, .ref iz, .int 0, .ref mb, .int mn, .int mpt, .int mbg, .int mwr, .int mwk, .int mlf, .int men]))]) (n := 2) [1, 0] rfl rfl (by decide))
    refine ty_ki (wr := [(mw, .inl (ct 0, 958, .inl f))]) (wc := ([(mo, .inr (11, [.ref mw, .ref ma, .ref mf, .ref m0, .ref m1, .ref mu, .ref mv, .ref u0, .ref u1, .ref iz, .int 0, .ref mb, .int mn, .int mpt, .int mbg, .int mwr, .int mwk, .int mlf, .int men]))] ++ ws_3)) (va_runV (As := [.int 0, .int 1]) (rest := []) ⟨hx, hb, hml, hown, hts⟩ (m_X11_throwsIf l D ct S ws_3 mo mw ma mf m0 m1 mu mv u0 u1 iz mb (0 : Int32) mn mpt mbg mwr mwk mlf men (0 : Int32) (1 : Int32) _ hT h_mu h_mv h_u0 h_u1 (by decide)) (cm_V 2 hts kc_X11_throwsIf ki_RX11 kl_RX11_328 kv_X11_throwsIf kx_X11_throwsIf kd_X11_throwsIf ⟨Nat.le_of_ble_eq_true rfl, Nat.le_of_ble_eq_true rfl⟩) (ty_preE (wr := [(mw, .inl (ct 0, 958, .inl f))]) (wc := ([(mo, .inr (11, [.ref mw, .ref ma, .ref mf, .ref m0, .ref m1, .ref mu, .ref mv, .ref u0, .ref u1, .ref iz, .int 0, .ref mb, .int mn, .int mpt, .int mbg, .int mwr, .int mwk, .int mlf, .int men]))] ++ ws_3)) (ci := 11) (q0 := 1) hP hK hD hS hA hX rfl rfl) rfl rfl hl.1 rfl (lv_room (Nat.le_of_ble_eq_true rfl)) dX11_setting_24 ⟨Nat.le_of_ble_eq_true rfl, Nat.le_of_ble_eq_true rfl⟩) hP hD hS hA (fun r_5 u H locs hw_6 hP hD hS => ?_)
    obtain ⟨ws_7, th1_8⟩ := u
    obtain ⟨hT, hp_9⟩ := hw_6
    have hp_9 : ((r_5 = 0 ∧ (0 : Int32) = 0) ∨ r_5 = 1) := hp_9
    have hP : va_P D vwCl ([(mw, .inl (ct 0, 958, .inl f)), (mo, .inr (11, [.ref mw, .ref ma, .ref mf, .ref m0, .ref m1, .ref mu, .ref mv, .ref u0, .ref u1, .ref iz, .int th1_8, .ref mb, .int mn, .int mpt, .int mbg, .int mwr, .int mwk, .int mlf, .int men]))] ++ ws_7) H := hP
    have hD : va_D A ([(mw, .inl (ct 0, 958, .inl f)), (mo, .inr (11, [.ref mw, .ref ma, .ref mf, .ref m0, .ref m1, .ref mu, .ref mv, .ref u0, .ref u1, .ref iz, .int th1_8, .ref mb, .int mn, .int mpt, .int mbg, .int mwr, .int mwk, .int mlf, .int men]))] ++ ws_7) := hD
    rcases hp_9 with ⟨rfl, hz_10⟩ | rfl
    · refine lv_if_eq (tgt := 34) hx hb dX11_setting_27 (by decide) (fun _ => ?_) (fun hc => absurd (by decide) hc)
      refine lv_aload_n hx hb dX11_setting_34 rfl (lv_at hl 0 rfl) ?_
      refine va_get (v := .ref mw) (D := D) (ci := 11) (C := RX11) (T := TX11) (N := 19) hx hb hts in_X11 hown hK hP 1 rfl rfl 0 (by decide) (hts _ kl_RX11_9) (fun _ h9 => h9) rfl dX11_setting_35 ?_
      refine lv_iload_n hx hb dX11_setting_38 rfl (lv_at hl 1 rfl) ?_
      refine va_iald hx hb hK hP 0 0 rfl rfl (rf_in1 (by have := (rf_rngc (L := 0) (U := 7) (by decide) (by decide) hc_4); omega)) dX11_setting_39 ?_
      have hP : va_P D vwCl ([(mo, .inr (11, [.ref mw, .ref ma, .ref mf, .ref m0, .ref m1, .ref mu, .ref mv, .ref u0, .ref u1, .ref iz, .int th1_8, .ref mb, .int mn, .int mpt, .int mbg, .int mwr, .int mwk, .int mlf, .int men])), (mw, .inl (ct 0, 958, .inl f))] ++ ws_7) H := ty_permP hP (ty_ordp (E := [(mw, .inl (ct 0, 958, .inl f)), (mo, .inr (11, [.ref mw, .ref ma, .ref mf, .ref m0, .ref m1, .ref mu, .ref mv, .ref u0, .ref u1, .ref iz, .int th1_8, .ref mb, .int mn, .int mpt, .int mbg, .int mwr, .int mwk, .int mlf, .int men]))]) (E2 := [(mo, .inr (11, [.ref mw, .ref ma, .ref mf, .ref m0, .ref m1, .ref mu, .ref mv, .ref u0, .ref u1, .ref iz, .int th1_8, .ref mb, .int mn, .int mpt, .int mbg, .int mwr, .int mwk, .int mlf, .int men])), (mw, .inl (ct 0, 958, .inl f))]) (n := 2) [1, 0] rfl rfl (by decide))
      have hD : va_D A ([(mo, .inr (11, [.ref mw, .ref ma, .ref mf, .ref m0, .ref m1, .ref mu, .ref mv, .ref u0, .ref u1, .ref iz, .int th1_8, .ref mb, .int mn, .int mpt, .int mbg, .int mwr, .int mwk, .int mlf, .int men])), (mw, .inl (ct 0, 958, .inl f))] ++ ws_7) := ty_permD hD (ty_ordp (E := [(mw, .inl (ct 0, 958, .inl f)), (mo, .inr (11, [.ref mw, .ref ma, .ref mf, .ref m0, .ref m1, .ref mu, .ref mv, .ref u0, .ref u1, .ref iz, .int th1_8, .ref mb, .int mn, .int mpt, .int mbg, .int mwr, .int mwk, .int mlf, .int men]))]) (E2 := [(mo, .inr (11, [.ref mw, .ref ma, .ref mf, .ref m0, .ref m1, .ref mu, .ref mv, .ref u0, .ref u1, .ref iz, .int th1_8, .ref mb, .int mn, .int mpt, .int mbg, .int mwr, .int mwk, .int mlf, .int men])), (mw, .inl (ct 0, 958, .inl f))]) (n := 2) [1, 0] rfl rfl (by decide))
      exact W.iret (v := (f p1.toNatClampNeg)) hx hb hr (fun t ht hW => ⟨⟨(f p1.toNatClampNeg), (ws_7, th1_8), rfl, hT, by rw [ht]; exact hP, by rw [hAe]; exact hD⟩, hS.F ht⟩) hS.2.2 dX11_setting_40
    · refine lv_if_eq (tgt := 34) hx hb dX11_setting_27 (by decide) (fun hc => absurd hc (by decide)) (fun _ => ?_)
      refine lv_iconst (v := 0) hx hb dX11_setting_30 (by decide) ?_
      refine lv_goto (tgt := 40) hx hb dX11_setting_31 (by decide) ?_
      have hP : va_P D vwCl ([(mo, .inr (11, [.ref mw, .ref ma, .ref mf, .ref m0, .ref m1, .ref mu, .ref mv, .ref u0, .ref u1, .ref iz, .int th1_8, .ref mb, .int mn, .int mpt, .int mbg, .int mwr, .int mwk, .int mlf, .int men])), (mw, .inl (ct 0, 958, .inl f))] ++ ws_7) H := ty_permP hP (ty_ordp (E := [(mw, .inl (ct 0, 958, .inl f)), (mo, .inr (11, [.ref mw, .ref ma, .ref mf, .ref m0, .ref m1, .ref mu, .ref mv, .ref u0, .ref u1, .ref iz, .int th1_8, .ref mb, .int mn, .int mpt, .int mbg, .int mwr, .int mwk, .int mlf, .int men]))]) (E2 := [(mo, .inr (11, [.ref mw, .ref ma, .ref mf, .ref m0, .ref m1, .ref mu, .ref mv, .ref u0, .ref u1, .ref iz, .int th1_8, .ref mb, .int mn, .int mpt, .int mbg, .int mwr, .int mwk, .int mlf, .int men])), (mw, .inl (ct 0, 958, .inl f))]) (n := 2) [1, 0] rfl rfl (by decide))
      have hD : va_D A ([(mo, .inr (11, [.ref mw, .ref ma, .ref mf, .ref m0, .ref m1, .ref mu, .ref mv, .ref u0, .ref u1, .ref iz, .int th1_8, .ref mb, .int mn, .int mpt, .int mbg, .int mwr, .int mwk, .int mlf, .int men])), (mw, .inl (ct 0, 958, .inl f))] ++ ws_7) := ty_permD hD (ty_ordp (E := [(mw, .inl (ct 0, 958, .inl f)), (mo, .inr (11, [.ref mw, .ref ma, .ref mf, .ref m0, .ref m1, .ref mu, .ref mv, .ref u0, .ref u1, .ref iz, .int th1_8, .ref mb, .int mn, .int mpt, .int mbg, .int mwr, .int mwk, .int mlf, .int men]))]) (E2 := [(mo, .inr (11, [.ref mw, .ref ma, .ref mf, .ref m0, .ref m1, .ref mu, .ref mv, .ref u0, .ref u1, .ref iz, .int th1_8, .ref mb, .int mn, .int mpt, .int mbg, .int mwr, .int mwk, .int mlf, .int men])), (mw, .inl (ct 0, 958, .inl f))]) (n := 2) [1, 0] rfl rfl (by decide))
      exact W.iret (v := 0) hx hb hr (fun t ht hW => ⟨⟨0, (ws_7, th1_8), rfl, hT, by rw [ht]; exact hP, by rw [hAe]; exact hD⟩, hS.F ht⟩) hS.2.2 dX11_setting_40
  · refine lv_iconst (v := 1) hx hb dX11_setting_18 (by decide) ?_
    refine lv_goto (tgt := 23) hx hb dX11_setting_19 (by decide) ?_
    refine lv_iconst (v := 1) hx hb dX11_setting_23 (by decide) ?_
    have hP : va_P D vwCl ([(mw, .inl (ct 0, 958, .inl f)), (mo, .inr (11, [.ref mw, .ref ma, .ref mf, .ref m0, .ref m1, .ref mu, .ref mv, .ref u0, .ref u1, .ref iz, .int 0, .ref mb, .int mn, .int mpt, .int mbg, .int mwr, .int mwk, .int mlf, .int men]))] ++ ws_3) H := ty_permP hP (ty_ordp (E := [(mo, .inr (11, [.ref mw, .ref ma, .ref mf, .ref m0, .ref m1, .ref mu, .ref mv, .ref u0, .ref u1, .ref iz, .int 0, .ref mb, .int mn, .int mpt, .int mbg, .int mwr, .int mwk, .int mlf, .int men])), (mw, .inl (ct 0, 958, .inl f))]) (E2 := [(mw, .inl (ct 0, 958, .inl f)), (mo, .inr (11, [.ref mw, .ref ma, .ref mf, .ref m0, .ref m1, .ref mu, .ref mv, .ref u0, .ref u1, .ref iz, .int 0, .ref mb, .int mn, .int mpt, .int mbg, .int mwr, .int mwk, .int mlf, .int men]))]) (n := 2) [1, 0] rfl rfl (by decide))
    have hD : va_D A ([(mw, .inl (ct 0, 958, .inl f)), (mo, .inr (11, [.ref mw, .ref ma, .ref mf, .ref m0, .ref m1, .ref mu, .ref mv, .ref u0, .ref u1, .ref iz, .int 0, .ref mb, .int mn, .int mpt, .int mbg, .int mwr, .int mwk, .int mlf, .int men]))] ++ ws_3) := ty_permD hD (ty_ordp (E := [(mo, .inr (11, [.ref mw, .ref ma, .ref mf, .ref m0, .ref m1, .ref mu, .ref mv, .ref u0, .ref u1, .ref iz, .int 0, .ref mb, .int mn, .int mpt, .int mbg, .int mwr, .int mwk, .int mlf, .int men])), (mw, .inl (ct 0, 958, .inl f))]) (E2 := [(mw, .inl (ct 0, 958, .inl f)), (mo, .inr (11, [.ref mw, .ref ma, .ref mf, .ref m0, .ref m1, .ref mu, .ref mv, .ref u0, .ref u1, .ref iz, .int 0, .ref mb, .int mn, .int mpt, .int mbg, .int mwr, .int mwk, .int mlf, .int men]))]) (n := 2) [1, 0] rfl rfl (by decide))
    refine ty_ki (wr := [(mw, .inl (ct 0, 958, .inl f))]) (wc := ([(mo, .inr (11, [.ref mw, .ref ma, .ref mf, .ref m0, .ref m1, .ref mu, .ref mv, .ref u0, .ref u1, .ref iz, .int 0, .ref mb, .int mn, .int mpt, .int mbg, .int mwr, .int mwk, .int mlf, .int men]))] ++ ws_3)) (va_runV (As := [.int 1, .int 1]) (rest := []) ⟨hx, hb, hml, hown, hts⟩ (m_X11_throwsIf l D ct S ws_3 mo mw ma mf m0 m1 mu mv u0 u1 iz mb (0 : Int32) mn mpt mbg mwr mwk mlf men (1 : Int32) (1 : Int32) _ hT h_mu h_mv h_u0 h_u1 (by decide)) (cm_V 2 hts kc_X11_throwsIf ki_RX11 kl_RX11_328 kv_X11_throwsIf kx_X11_throwsIf kd_X11_throwsIf ⟨Nat.le_of_ble_eq_true rfl, Nat.le_of_ble_eq_true rfl⟩) (ty_preE (wr := [(mw, .inl (ct 0, 958, .inl f))]) (wc := ([(mo, .inr (11, [.ref mw, .ref ma, .ref mf, .ref m0, .ref m1, .ref mu, .ref mv, .ref u0, .ref u1, .ref iz, .int 0, .ref mb, .int mn, .int mpt, .int mbg, .int mwr, .int mwk, .int mlf, .int men]))] ++ ws_3)) (ci := 11) (q0 := 1) hP hK hD hS hA hX rfl rfl) rfl rfl hl.1 rfl (lv_room (Nat.le_of_ble_eq_true rfl)) dX11_setting_24 ⟨Nat.le_of_ble_eq_true rfl, Nat.le_of_ble_eq_true rfl⟩) hP hD hS hA (fun r_11 u H locs hw_12 hP hD hS => ?_)
    obtain ⟨ws_13, th1_14⟩ := u
    obtain ⟨hT, hp_15⟩ := hw_12
    have hp_15 : ((r_11 = 0 ∧ (1 : Int32) = 0) ∨ r_11 = 1) := hp_15
    have hP : va_P D vwCl ([(mw, .inl (ct 0, 958, .inl f)), (mo, .inr (11, [.ref mw, .ref ma, .ref mf, .ref m0, .ref m1, .ref mu, .ref mv, .ref u0, .ref u1, .ref iz, .int th1_14, .ref mb, .int mn, .int mpt, .int mbg, .int mwr, .int mwk, .int mlf, .int men]))] ++ ws_13) H := hP
    have hD : va_D A ([(mw, .inl (ct 0, 958, .inl f)), (mo, .inr (11, [.ref mw, .ref ma, .ref mf, .ref m0, .ref m1, .ref mu, .ref mv, .ref u0, .ref u1, .ref iz, .int th1_14, .ref mb, .int mn, .int mpt, .int mbg, .int mwr, .int mwk, .int mlf, .int men]))] ++ ws_13) := hD
    rcases hp_15 with ⟨rfl, hz_16⟩ | rfl
    · exact absurd hz_16 (by decide)
    · refine lv_if_eq (tgt := 34) hx hb dX11_setting_27 (by decide) (fun hc => absurd hc (by decide)) (fun _ => ?_)
      refine lv_iconst (v := 0) hx hb dX11_setting_30 (by decide) ?_
      refine lv_goto (tgt := 40) hx hb dX11_setting_31 (by decide) ?_
      have hP : va_P D vwCl ([(mo, .inr (11, [.ref mw, .ref ma, .ref mf, .ref m0, .ref m1, .ref mu, .ref mv, .ref u0, .ref u1, .ref iz, .int th1_14, .ref mb, .int mn, .int mpt, .int mbg, .int mwr, .int mwk, .int mlf, .int men])), (mw, .inl (ct 0, 958, .inl f))] ++ ws_13) H := ty_permP hP (ty_ordp (E := [(mw, .inl (ct 0, 958, .inl f)), (mo, .inr (11, [.ref mw, .ref ma, .ref mf, .ref m0, .ref m1, .ref mu, .ref mv, .ref u0, .ref u1, .ref iz, .int th1_14, .ref mb, .int mn, .int mpt, .int mbg, .int mwr, .int mwk, .int mlf, .int men]))]) (E2 := [(mo, .inr (11, [.ref mw, .ref ma, .ref mf, .ref m0, .ref m1, .ref mu, .ref mv, .ref u0, .ref u1, .ref iz, .int th1_14, .ref mb, .int mn, .int mpt, .int mbg, .int mwr, .int mwk, .int mlf, .int men])), (mw, .inl (ct 0, 958, .inl f))]) (n := 2) [1, 0] rfl rfl (by decide))
      have hD : va_D A ([(mo, .inr (11, [.ref mw, .ref ma, .ref mf, .ref m0, .ref m1, .ref mu, .ref mv, .ref u0, .ref u1, .ref iz, .int th1_14, .ref mb, .int mn, .int mpt, .int mbg, .int mwr, .int mwk, .int mlf, .int men])), (mw, .inl (ct 0, 958, .inl f))] ++ ws_13) := ty_permD hD (ty_ordp (E := [(mw, .inl (ct 0, 958, .inl f)), (mo, .inr (11, [.ref mw, .ref ma, .ref mf, .ref m0, .ref m1, .ref mu, .ref mv, .ref u0, .ref u1, .ref iz, .int th1_14, .ref mb, .int mn, .int mpt, .int mbg, .int mwr, .int mwk, .int mlf, .int men]))]) (E2 := [(mo, .inr (11, [.ref mw, .ref ma, .ref mf, .ref m0, .ref m1, .ref mu, .ref mv, .ref u0, .ref u1, .ref iz, .int th1_14, .ref mb, .int mn, .int mpt, .int mbg, .int mwr, .int mwk, .int mlf, .int men])), (mw, .inl (ct 0, 958, .inl f))]) (n := 2) [1, 0] rfl rfl (by decide))
      exact W.iret (v := 0) hx hb hr (fun t ht hW => ⟨⟨0, (ws_13, th1_14), rfl, hT, by rw [ht]; exact hP, by rw [hAe]; exact hD⟩, hS.F ht⟩) hS.2.2 dX11_setting_40
theorem dX11_setAmbient_0 : decode cX11_setAmbient 0 = .ok (.aload_n 0, 1) := by decide +kernel
theorem dX11_setAmbient_1 : decode cX11_setAmbient 1 = .ok (.iconst 0, 1) := by decide +kernel
theorem dX11_setAmbient_2 : decode cX11_setAmbient 2 = .ok (.putfield 49, 3) := by decide +kernel
theorem dX11_setAmbient_5 : decode cX11_setAmbient 5 = .ok (.aload_n 0, 1) := by decide +kernel
theorem dX11_setAmbient_6 : decode cX11_setAmbient 6 = .ok (.iload_n 1, 1) := by decide +kernel
theorem dX11_setAmbient_7 : decode cX11_setAmbient 7 = .ok (.i2l, 1) := by decide +kernel
theorem dX11_setAmbient_8 : decode cX11_setAmbient 8 = .ok (.lconst 0, 1) := by decide +kernel
theorem dX11_setAmbient_9 : decode cX11_setAmbient 9 = .ok (.ldc2_w 334, 3) := by decide +kernel
theorem dX11_setAmbient_12 : decode cX11_setAmbient 12 = .ok (.invokestatic 70, 3) := by decide +kernel
theorem dX11_setAmbient_15 : decode cX11_setAmbient 15 = .ok (.ifCond .ne 7, 3) := by decide +kernel
theorem dX11_setAmbient_18 : decode cX11_setAmbient 18 = .ok (.iconst 1, 1) := by decide +kernel
theorem dX11_setAmbient_19 : decode cX11_setAmbient 19 = .ok (.goto 4, 3) := by decide +kernel
theorem dX11_setAmbient_22 : decode cX11_setAmbient 22 = .ok (.iconst 0, 1) := by decide +kernel
theorem dX11_setAmbient_23 : decode cX11_setAmbient 23 = .ok (.iconst 1, 1) := by decide +kernel
theorem dX11_setAmbient_24 : decode cX11_setAmbient 24 = .ok (.invokevirtual 328, 3) := by decide +kernel
theorem dX11_setAmbient_27 : decode cX11_setAmbient 27 = .ok (.ifCond .eq 5, 3) := by decide +kernel
theorem dX11_setAmbient_30 : decode cX11_setAmbient 30 = .ok (.iconst 0, 1) := by decide +kernel
theorem dX11_setAmbient_31 : decode cX11_setAmbient 31 = .ok (.ireturn, 1) := by decide +kernel
theorem dX11_setAmbient_32 : decode cX11_setAmbient 32 = .ok (.aload_n 0, 1) := by decide +kernel
theorem dX11_setAmbient_33 : decode cX11_setAmbient 33 = .ok (.getfield 9, 3) := by decide +kernel
theorem dX11_setAmbient_36 : decode cX11_setAmbient 36 = .ok (.bipush 7, 2) := by decide +kernel
theorem dX11_setAmbient_38 : decode cX11_setAmbient 38 = .ok (.iaload, 1) := by decide +kernel
theorem dX11_setAmbient_39 : decode cX11_setAmbient 39 = .ok (.istore_n 2, 1) := by decide +kernel
theorem dX11_setAmbient_40 : decode cX11_setAmbient 40 = .ok (.aload_n 0, 1) := by decide +kernel
theorem dX11_setAmbient_41 : decode cX11_setAmbient 41 = .ok (.getfield 9, 3) := by decide +kernel
theorem dX11_setAmbient_44 : decode cX11_setAmbient 44 = .ok (.bipush 7, 2) := by decide +kernel
theorem dX11_setAmbient_46 : decode cX11_setAmbient 46 = .ok (.iload_n 1, 1) := by decide +kernel
theorem dX11_setAmbient_47 : decode cX11_setAmbient 47 = .ok (.iastore, 1) := by decide +kernel
theorem dX11_setAmbient_48 : decode cX11_setAmbient 48 = .ok (.iload_n 2, 1) := by decide +kernel
theorem dX11_setAmbient_49 : decode cX11_setAmbient 49 = .ok (.ireturn, 1) := by decide +kernel
set_option maxRecDepth 100000 in
set_option maxHeartbeats 4000000 in
theorem m_X11_setAmbient (l : Launch) (D : va_G) (ct : Nat → ClassId) (S : ty_S) (ws : va_W) (mo : Nat) (mw : Nat) (ma : Nat) (mf : Nat) (m0 : Nat) (m1 : Nat) (mu : Nat) (mv : Nat) (u0 : Nat) (u1 : Nat) (iz : Nat) (mb : Nat) (th : Int32) (mn : Int32) (mpt : Int32) (mbg : Int32) (mwr : Int32) (mwk : Int32) (mlf : Int32) (men : Int32) (f : Nat → Int32) (G : Nat → Int32) (cx : Int) (p1 : Int32) (sz : Nat) (hT : ty_W ct S ws) (h_mu : S mu = some (.inr (1, 42))) (h_mv : S mv = some (.inr (1, 42))) (h_u0 : S u0 = some (.inr (1, 42))) (h_u1 : S u1 = some (.inr (1, 42))) (hR : rf_R G cx f) : Met l yX11_setAmbient (ws_ yX11_setAmbient cX11_setAmbient 3 (some .int)) ({ frames := 1, cells := 0, slots := 0, locals := 25 } : Room) (va_Pc [.ref mo, .int p1] (cmP D ct sz ([(mo, .inr (11, [.ref mw, .ref ma, .ref mf, .ref m0, .ref m1, .ref mu, .ref mv, .ref u0, .ref u1, .ref iz, .int th, .ref mb, .int mn, .int mpt, .int mbg, .int mwr, .int mwk, .int mlf, .int men])), (mw, .inl (ct 0, 958, .inl f))] ++ ws))) (va_Qi (fun (r : Int32) (u : va_W × Int32 × (Nat → Int32)) => match u with | (u9, th1, f1) => ty_W ct S u9 ∧ rf_R G cx f1 ∧ rf_sm f f1) (cmB D ([(mo, .inr (11, [.ref mw, .ref ma, .ref mf, .ref m0, .ref m1, .ref mu, .ref mv, .ref u0, .ref u1, .ref iz, .int th, .ref mb, .int mn, .int mpt, .int mbg, .int mwr, .int mwk, .int mlf, .int men])), (mw, .inl (ct 0, 958, .inl f))] ++ ws) sz (fun (u : va_W × Int32 × (Nat → Int32)) => match u with | (u9, th1, f1) => ([(mo, .inr (11, [.ref mw, .ref ma, .ref mf, .ref m0, .ref m1, .ref mu, .ref mv, .ref u0, .ref u1, .ref iz, .int th1, .ref mb, .int mn, .int mpt, .int mbg, .int mwr, .int mwk, .int mlf, .int men])), (mw, .inl (ct 0, 958, .inl f1))] ++ u9))) (va_A ([(mo, .inr (11, [.ref mw, .ref ma, .ref mf, .ref m0, .ref m1, .ref mu, .ref mv, .ref u0, .ref u1, .ref iz, .int th, .ref mb, .int mn, .int mpt, .int mbg, .int mwr, .int mwk, .int mlf, .int men])), (mw, .inl (ct 0, 958, .inl f))] ++ ws) sz)) 0 0 (va_A ([(mo, .inr (11, [.ref mw, .ref ma, .ref mf, .ref m0, .ref m1, .ref mu, .ref mv, .ref u0, .ref u1, .ref iz, .int th, .ref mb, .int mn, .int mpt, .int mbg, .int mwr, .int mwk, .int mlf, .int men])), (mw, .inl (ct 0, 958, .inl f))] ++ ws) sz) := by
  refine Met.ofW (cc := cX11_setAmbient) (maxL := 3) (ret := (some .int)) (by decide) rfl ?_
  intro p e s m args below meth c s₁ B hml hv
  obtain ⟨rfl, hsz, hP, hK, hD0, hX⟩ := hv
  have hx := B.exec
  have hb := B.bytes
  have hr := B.returns
  have hts := ws_all (atoms_spec (ws := ws_ yX11_setAmbient cX11_setAmbient 3 (some .int)) B.pre)
  have hown : s.vm.findClass RX11 = some m.cls := findClass_of_methodNamed B.named
  have hlocks := B.notSynchronized
  subst hsz
  have hD := hD0.self (sz := s.heap.size)
  generalize hAe : va_A ([(mo, .inr (11, [.ref mw, .ref ma, .ref mf, .ref m0, .ref m1, .ref mu, .ref mv, .ref u0, .ref u1, .ref iz, .int th, .ref mb, .int mn, .int mpt, .int mbg, .int mwr, .int mwk, .int mlf, .int men])), (mw, .inl (ct 0, 958, .inl f))] ++ ws) s.heap.size = A at hD hX ⊢
  have hA : ∀ q : Nat, s.heap.size ≤ q → A q := fun q h => by rw [← hAe]; exact Or.inr h
  have hS : va_S A s.heap s.heap [] := va_S.rf
  have hl := lv_entry ([.ref mo, .int p1]) (n := 3) (Nat.le_of_ble_eq_true rfl)
  rw [lg_entry_eq]
  generalize (lg_sl ([.ref mo, .int p1]) ++ List.replicate (3 - (lg_sl ([.ref mo, .int p1])).length) Slot.unset).toArray = ls at hl ⊢
  have hl : lv_has ls 3 [(0, .ref mo), (1, .int p1)] := hl
  refine lv_aload_n hx hb dX11_setAmbient_0 rfl (lv_at hl 0 rfl) ?_
  refine lv_iconst (v := 0) hx hb dX11_setAmbient_1 (by decide) ?_
  refine va_put (v := .int 0) (ty := .int) (D := D) (ci := 11) (C := RX11) (T := TX11) (N := 19) hx hb hts in_X11 tyX11 tyX11_ok nmX11 hown hK hP hD hS 0 rfl rfl 10 (by decide) (hts _ kl_RX11_49) (fun _ h9 => h9) rfl (by decide +kernel) rfl rfl (Nat.le_of_ble_eq_true rfl) dX11_setAmbient_2 (fun H locs hP hD hS => ?_)
  have hP : va_P D vwCl ([(mo, .inr (11, [.ref mw, .ref ma, .ref mf, .ref m0, .ref m1, .ref mu, .ref mv, .ref u0, .ref u1, .ref iz, .int 0, .ref mb, .int mn, .int mpt, .int mbg, .int mwr, .int mwk, .int mlf, .int men])), (mw, .inl (ct 0, 958, .inl f))] ++ ws) H := hP
  have hD : va_D A ([(mo, .inr (11, [.ref mw, .ref ma, .ref mf, .ref m0, .ref m1, .ref mu, .ref mv, .ref u0, .ref u1, .ref iz, .int 0, .ref mb, .int mn, .int mpt, .int mbg, .int mwr, .int mwk, .int mlf, .int men])), (mw, .inl (ct 0, 958, .inl f))] ++ ws) := hD
  refine lv_aload_n hx hb dX11_setAmbient_5 rfl (lv_at hl 0 rfl) ?_
  refine lv_iload_n hx hb dX11_setAmbient_6 rfl (lv_at hl 1 rfl) ?_
  refine lv_i2l hx hb dX11_setAmbient_7 rfl ?_
  refine lv_lconst (v := 0) hx hb dX11_setAmbient_8 (by decide) ?_
  refine lv_ldc2 hx hb hown (hts _ kl_RX11_334) dX11_setAmbient_9 ?_
  refine ty_ki (wr := [(mo, .inr (11, [.ref mw, .ref ma, .ref mf, .ref m0, .ref m1, .ref mu, .ref mv, .ref u0, .ref u1, .ref iz, .int 0, .ref mb, .int mn, .int mpt, .int mbg, .int mwr, .int mwk, .int mlf, .int men])), (mw, .inl (ct 0, 958, .inl f))]) (wc := ([] ++ ws)) (va_runS (As := [.long p1.toInt64, .long 0, .long 500]) (rest := [.ref mo]) ⟨hx, hb, hml, hown, hts⟩ (m_X11_in l D ct S ws p1.toInt64 (0 : Int64) (500 : Int64) _ hT) (cm_S 3 hts kc_X11_in ki_RX11 kl_RX11_70 ks_X11_in kd_X11_in ⟨Nat.le_of_ble_eq_true rfl, Nat.le_of_ble_eq_true rfl⟩) (ty_preS (wr := [(mo, .inr (11, [.ref mw, .ref ma, .ref mf, .ref m0, .ref m1, .ref mu, .ref mv, .ref u0, .ref u1, .ref iz, .int 0, .ref mb, .int mn, .int mpt, .int mbg, .int mwr, .int mwk, .int mlf, .int men])), (mw, .inl (ct 0, 958, .inl f))]) (wc := ([] ++ ws)) hP hK hD hS hA hX) rfl rfl hl.1 rfl (lv_room (Nat.le_of_ble_eq_true rfl)) dX11_setAmbient_12 ⟨Nat.le_of_ble_eq_true rfl, Nat.le_of_ble_eq_true rfl⟩) hP hD hS hA (fun r_1 u H locs hw_2 hP hD hS => ?_)
  obtain ⟨ws_3, rfl⟩ : ∃ z, z = u := ⟨_, rfl⟩
  obtain ⟨hT, rfl⟩ := hw_2
  have hP : va_P D vwCl ([(mo, .inr (11, [.ref mw, .ref ma, .ref mf, .ref m0, .ref m1, .ref mu, .ref mv, .ref u0, .ref u1, .ref iz, .int 0, .ref mb, .int mn, .int mpt, .int mbg, .int mwr, .int mwk, .int mlf, .int men])), (mw, .inl (ct 0, 958, .inl f))] ++ ws_3) H := hP
  have hD : va_D A ([(mo, .inr (11, [.ref mw, .ref ma, .ref mf, .ref m0, .ref m1, .ref mu, .ref mv, .ref u0, .ref u1, .ref iz, .int 0, .ref mb, .int mn, .int mpt, .int mbg, .int mwr, .int mwk, .int mlf, .int men])), (mw, .inl (ct 0, 958, .inl f))] ++ ws_3) := hD
  refine lv_if_ne (tgt := 22) hx hb dX11_setAmbient_15 (by decide) (fun hc_4 => ?_) (fun hc_4 => ?_)
  · refine lv_iconst (v := 0) hx hb dX11_setAmbient_22 (by decide) ?_
    refine lv_iconst (v := 1) hx hb dX11_setAmbient_23 (by decide) ?_
    have hP : va_P D vwCl ([(mw, .inl (ct 0, 958, .inl f)), (mo, .inr (11, [.ref mw, .ref ma, .ref mf, .ref m0, .ref m1, .ref mu, .ref mv, .ref u0, .ref u1, .ref iz, .int 0, .ref mb, .int mn, .int mpt, .int mbg, .int mwr, .int mwk, .int mlf, .int men]))] ++ ws_3) H := ty_permP hP (ty_ordp (E := [(mo, .inr (11, [.ref mw, .ref ma, .ref mf, .ref m0, .ref m1, .ref mu, .ref mv, .ref u0, .ref u1, .ref iz, .int 0, .ref mb, .int mn, .int mpt, .int mbg, .int mwr, .int mwk, .int mlf, .int men])), (mw, .inl (ct 0, 958, .inl f))]) (E2 := [(mw, .inl (ct 0, 958, .inl f)), (mo, .inr (11, [.ref mw, .ref ma, .ref mf, .ref m0, .ref m1, .ref mu, .ref mv, .ref u0, .ref u1, .ref iz, .int 0, .ref mb, .int mn, .int mpt, .int mbg, .int mwr, .int mwk, .int mlf, .int men]))]) (n := 2) [1, 0] rfl rfl (by decide))
    have hD : va_D A ([(mw, .inl (ct 0, 958, .inl f)), (mo, .inr (11, [.ref mw, .ref ma, .ref mf, .ref m0, .ref m1, .ref mu, .ref mv, .ref u0, .ref u1, .ref iz, .int 0, .ref mb, .int mn, .int mpt, .int mbg, .int mwr, .int mwk, .int mlf, .int men]))] ++ ws_3) := ty_permD hD (ty_ordp (E := [(mo, .inr (11, [.ref mw, .ref ma, .ref mf, .ref m0, .ref m1, .ref mu, .ref mv, .ref u0, .ref u1, .ref iz, .int 0, .ref mb, .int mn, .int mpt, .int mbg, .int mwr, .int mwk, .int mlf, .int men])), (mw, .inl (ct 0, 958, .inl f))]) (E2 := [(mw, .inl (ct 0, 958, .inl f)), (mo, .inr (11, [.ref mw, .ref ma, .ref mf, .ref m0, .ref m1, .ref mu, .ref mv, .ref u0, .ref u1, .ref iz, .int 0, .ref mb, .int mn, .int mpt, .int mbg, .int mwr, .int mwk, .int mlf, .int men]))]) (n := 2) [1, 0] rfl rfl (by decide))
    refine ty_ki (wr := [(mw, .inl (ct 0, 958, .inl f))]) (wc := ([(mo, .inr (11, [.ref mw, .ref ma, .ref mf, .ref m0, .ref m1, .ref mu, .ref mv, .ref u0, .ref u1, .ref iz, .int 0, .ref mb, .int mn, .int mpt, .int mbg, .int mwr, .int mwk, .int mlf, .int men]))] ++ ws_3)) (va_runV (As := [.int 0, .int 1]) (rest := []) ⟨hx, hb, hml, hown, hts⟩ (m_X11_throwsIf l D ct S ws_3 mo mw ma mf m0 m1 mu mv u0 u1 iz mb (0 : Int32) mn mpt mbg mwr mwk mlf men (0 : Int32) (1 : Int32) _ hT h_mu h_mv h_u0 h_u1 (by decide)) (cm_V 2 hts kc_X11_throwsIf ki_RX11 kl_RX11_328 kv_X11_throwsIf kx_X11_throwsIf kd_X11_throwsIf ⟨Nat.le_of_ble_eq_true rfl, Nat.le_of_ble_eq_true rfl⟩) (ty_preE (wr := [(mw, .inl (ct 0, 958, .inl f))]) (wc := ([(mo, .inr (11, [.ref mw, .ref ma, .ref mf, .ref m0, .ref m1, .ref mu, .ref mv, .ref u0, .ref u1, .ref iz, .int 0, .ref mb, .int mn, .int mpt, .int mbg, .int mwr, .int mwk, .int mlf, .int men]))] ++ ws_3)) (ci := 11) (q0 := 1) hP hK hD hS hA hX rfl rfl) rfl rfl hl.1 rfl (lv_room (Nat.le_of_ble_eq_true rfl)) dX11_setAmbient_24 ⟨Nat.le_of_ble_eq_true rfl, Nat.le_of_ble_eq_true rfl⟩) hP hD hS hA (fun r_5 u H locs hw_6 hP hD hS => ?_)
    obtain ⟨ws_7, th1_8⟩ := u
    obtain ⟨hT, hp_9⟩ := hw_6
    have hp_9 : ((r_5 = 0 ∧ (0 : Int32) = 0) ∨ r_5 = 1) := hp_9
    have hP : va_P D vwCl ([(mw, .inl (ct 0, 958, .inl f)), (mo, .inr (11, [.ref mw, .ref ma, .ref mf, .ref m0, .ref m1, .ref mu, .ref mv, .ref u0, .ref u1, .ref iz, .int th1_8, .ref mb, .int mn, .int mpt, .int mbg, .int mwr, .int mwk, .int mlf, .int men]))] ++ ws_7) H := hP
    have hD : va_D A ([(mw, .inl (ct 0, 958, .inl f)), (mo, .inr (11, [.ref mw, .ref ma, .ref mf, .ref m0, .ref m1, .ref mu, .ref mv, .ref u0, .ref u1, .ref iz, .int th1_8, .ref mb, .int mn, .int mpt, .int mbg, .int mwr, .int mwk, .int mlf, .int men]))] ++ ws_7) := hD
    rcases hp_9 with ⟨rfl, hz_10⟩ | rfl
    · refine lv_if_eq (tgt := 32) hx hb dX11_setAmbient_27 (by decide) (fun _ => ?_) (fun hc => absurd (by decide) hc)
      refine lv_aload_n hx hb dX11_setAmbient_32 rfl (lv_at hl 0 rfl) ?_
      refine va_get (v := .ref mw) (D := D) (ci := 11) (C := RX11) (T := TX11) (N := 19) hx hb hts in_X11 hown hK hP 1 rfl rfl 0 (by decide) (hts _ kl_RX11_9) (fun _ h9 => h9) rfl dX11_setAmbient_33 ?_
      refine lv_bipush (v := 7) hx hb dX11_setAmbient_36 (by decide) ?_
      refine va_iald hx hb hK hP 0 0 rfl rfl (cm_vin (by decide)) dX11_setAmbient_38 ?_
      refine cm_cst (y := (f 7)) (by first | rfl | decide +kernel) ?_
      refine lv_istore_n (lv' := [(2, .int (f 7)), (0, .ref mo), (1, .int p1)]) hx hb dX11_setAmbient_39 rfl hl (by decide) rfl (fun ls hl => ?_)
      refine lv_aload_n hx hb dX11_setAmbient_40 rfl (lv_at hl 1 rfl) ?_
      refine va_get (v := .ref mw) (D := D) (ci := 11) (C := RX11) (T := TX11) (N := 19) hx hb hts in_X11 hown hK hP 1 rfl rfl 0 (by decide) (hts _ kl_RX11_9) (fun _ h9 => h9) rfl dX11_setAmbient_41 ?_
      refine lv_bipush (v := 7) hx hb dX11_setAmbient_44 (by decide) ?_
      refine lv_iload_n hx hb dX11_setAmbient_46 rfl (lv_at hl 2 rfl) ?_
      refine va_iast hx hb hK hP hD hS 0 0 rfl rfl (cm_vin (by decide)) dX11_setAmbient_47 (fun H locs hP hD hS => ?_)
      have hP : va_P D vwCl ([(mw, .inl (ct 0, 958, .inl (upd f (7 : Int32).toNatClampNeg p1))), (mo, .inr (11, [.ref mw, .ref ma, .ref mf, .ref m0, .ref m1, .ref mu, .ref mv, .ref u0, .ref u1, .ref iz, .int th1_8, .ref mb, .int mn, .int mpt, .int mbg, .int mwr, .int mwk, .int mlf, .int men]))] ++ ws_7) H := hP
      have hD : va_D A ([(mw, .inl (ct 0, 958, .inl (upd f (7 : Int32).toNatClampNeg p1))), (mo, .inr (11, [.ref mw, .ref ma, .ref mf, .ref m0, .ref m1, .ref mu, .ref mv, .ref u0, .ref u1, .ref iz, .int th1_8, .ref mb, .int mn, .int mpt, .int mbg, .int mwr, .int mwk, .int mlf, .int men]))] ++ ws_7) := hD
      have hU_12 : rf_R G cx (upd f (7 : Int32).toNatClampNeg p1) ∧ rf_sm f (upd f (7 : Int32).toNatClampNeg p1) := (rf_free _ hR (Or.inl (by decide)))
      generalize hf_15 : (upd f (7 : Int32).toNatClampNeg p1) = f_11 at hP hD hU_12
      have hR_13 := hU_12.1
      have hM_14 := rf_smt (rf_smr f) hU_12.2
      refine lv_iload_n hx hb dX11_setAmbient_48 rfl (lv_at hl 0 rfl) ?_
      have hP : va_P D vwCl ([(mo, .inr (11, [.ref mw, .ref ma, .ref mf, .ref m0, .ref m1, .ref mu, .ref mv, .ref u0, .ref u1, .ref iz, .int th1_8, .ref mb, .int mn, .int mpt, .int mbg, .int mwr, .int mwk, .int mlf, .int men])), (mw, .inl (ct 0, 958, .inl f_11))] ++ ws_7) H := ty_permP hP (ty_ordp (E := [(mw, .inl (ct 0, 958, .inl f_11)), (mo, .inr (11, [.ref mw, .ref ma, .ref mf, .ref m0, .ref m1, .ref mu, .ref mv, .ref u0, .ref u1, .ref iz, .int th1_8, .ref mb, .int mn, .int mpt, .int mbg, .int mwr, .int mwk, .int mlf, .int men]))]) (E2 := [(mo, .inr (11, [.ref mw, .ref ma, .ref mf, .ref m0, .ref m1, .ref mu, .ref mv, .ref u0, .ref u1, .ref iz, .int th1_8, .ref mb, .int mn, .int mpt, .int mbg, .int mwr, .int mwk, .int mlf, .int men])), (mw, .inl (ct 0, 958, .inl f_11))]) (n := 2) [1, 0] rfl rfl (by decide))
      have hD : va_D A ([(mo, .inr (11, [.ref mw, .ref ma, .ref mf, .ref m0, .ref m1, .ref mu, .ref mv, .ref u0, .ref u1, .ref iz, .int th1_8, .ref mb, .int mn, .int mpt, .int mbg, .int mwr, .int mwk, .int mlf, .int men])), (mw, .inl (ct 0, 958, .inl f_11))] ++ ws_7) := ty_permD hD (ty_ordp (E := [(mw, .inl (ct 0, 958, .inl f_11)), (mo, .inr (11, [.ref mw, .ref ma, .ref mf, .ref m0, .ref m1, .ref mu, .ref mv, .ref u0, .ref u1, .ref iz, .int th1_8, .ref mb, .int mn, .int mpt, .int mbg, .int mwr, .int mwk, .int mlf, .int men]))]) (E2 := [(mo, .inr (11, [.ref mw, .ref ma, .ref mf, .ref m0, .ref m1, .ref mu, .ref mv, .ref u0, .ref u1, .ref iz, .int th1_8, .ref mb, .int mn, .int mpt, .int mbg, .int mwr, .int mwk, .int mlf, .int men])), (mw, .inl (ct 0, 958, .inl f_11))]) (n := 2) [1, 0] rfl rfl (by decide))
      exact W.iret (v := (f 7)) hx hb hr (fun t ht hW => ⟨⟨(f 7), (ws_7, th1_8, f_11), rfl, ⟨hT, ⟨hR_13, hM_14⟩⟩, by rw [ht]; exact hP, by rw [hAe]; exact hD⟩, hS.F ht⟩) hS.2.2 dX11_setAmbient_49
    · refine lv_if_eq (tgt := 32) hx hb dX11_setAmbient_27 (by decide) (fun hc => absurd hc (by decide)) (fun _ => ?_)
      refine lv_iconst (v := 0) hx hb dX11_setAmbient_30 (by decide) ?_
      have hP : va_P D vwCl ([(mo, .inr (11, [.ref mw, .ref ma, .ref mf, .ref m0, .ref m1, .ref mu, .ref mv, .ref u0, .ref u1, .ref iz, .int th1_8, .ref mb, .int mn, .int mpt, .int mbg, .int mwr, .int mwk, .int mlf, .int men])), (mw, .inl (ct 0, 958, .inl f))] ++ ws_7) H := ty_permP hP (ty_ordp (E := [(mw, .inl (ct 0, 958, .inl f)), (mo, .inr (11, [.ref mw, .ref ma, .ref mf, .ref m0, .ref m1, .ref mu, .ref mv, .ref u0, .ref u1, .ref iz, .int th1_8, .ref mb, .int mn, .int mpt, .int mbg, .int mwr, .int mwk, .int mlf, .int men]))]) (E2 := [(mo, .inr (11, [.ref mw, .ref ma, .ref mf, .ref m0, .ref m1, .ref mu, .ref mv, .ref u0, .ref u1, .ref iz, .int th1_8, .ref mb, .int mn, .int mpt, .int mbg, .int mwr, .int mwk, .int mlf, .int men])), (mw, .inl (ct 0, 958, .inl f))]) (n := 2) [1, 0] rfl rfl (by decide))
      have hD : va_D A ([(mo, .inr (11, [.ref mw, .ref ma, .ref mf, .ref m0, .ref m1, .ref mu, .ref mv, .ref u0, .ref u1, .ref iz, .int th1_8, .ref mb, .int mn, .int mpt, .int mbg, .int mwr, .int mwk, .int mlf, .int men])), (mw, .inl (ct 0, 958, .inl f))] ++ ws_7) := ty_permD hD (ty_ordp (E := [(mw, .inl (ct 0, 958, .inl f)), (mo, .inr (11, [.ref mw, .ref ma, .ref mf, .ref m0, .ref m1, .ref mu, .ref mv, .ref u0, .ref u1, .ref iz, .int th1_8, .ref mb, .int mn, .int mpt, .int mbg, .int mwr, .int mwk, .int mlf, .int men]))]) (E2 := [(mo, .inr (11, [.ref mw, .ref ma, .ref mf, .ref m0, .ref m1, .ref mu, .ref mv, .ref u0, .ref u1, .ref iz, .int th1_8, .ref mb, .int mn, .int mpt, .int mbg, .int mwr, .int mwk, .int mlf, .int men])), (mw, .inl (ct 0, 958, .inl f))]) (n := 2) [1, 0] rfl rfl (by decide))
      exact W.iret (v := 0) hx hb hr (fun t ht hW => ⟨⟨0, (ws_7, th1_8, f), rfl, ⟨hT, ⟨hR, (rf_smr f)⟩⟩, by rw [ht]; exact hP, by rw [hAe]; exact hD⟩, hS.F ht⟩) hS.2.2 dX11_setAmbient_31
  · refine lv_iconst (v := 1) hx hb dX11_setAmbient_18 (by decide) ?_
    refine lv_goto (tgt := 23) hx hb dX11_setAmbient_19 (by decide) ?_
    refine lv_iconst (v := 1) hx hb dX11_setAmbient_23 (by decide) ?_
    have hP : va_P D vwCl ([(mw, .inl (ct 0, 958, .inl f)), (mo, .inr (11, [.ref mw, .ref ma, .ref mf, .ref m0, .ref m1, .ref mu, .ref mv, .ref u0, .ref u1, .ref iz, .int 0, .ref mb, .int mn, .int mpt, .int mbg, .int mwr, .int mwk, .int mlf, .int men]))] ++ ws_3) H := ty_permP hP (ty_ordp (E := [(mo, .inr (11, [.ref mw, .ref ma, .ref mf, .ref m0, .ref m1, .ref mu, .ref mv, .ref u0, .ref u1, .ref iz, .int 0, .ref mb, .int mn, .int mpt, .int mbg, .int mwr, .int mwk, .int mlf, .int men])), (mw, .inl (ct 0, 958, .inl f))]) (E2 := [(mw, .inl (ct 0, 958, .inl f)), (mo, .inr (11, [.ref mw, .ref ma, .ref mf, .ref m0, .ref m1, .ref mu, .ref mv, .ref u0, .ref u1, .ref iz, .int 0, .ref mb, .int mn, .int mpt, .int mbg, .int mwr, .int mwk, .int mlf, .int men]))]) (n := 2) [1, 0] rfl rfl (by decide))
    have hD : va_D A ([(mw, .inl (ct 0, 958, .inl f)), (mo, .inr (11, [.ref mw, .ref ma, .ref mf, .ref m0, .ref m1, .ref mu, .ref mv, .ref u0, .ref u1, .ref iz, .int 0, .ref mb, .int mn, .int mpt, .int mbg, .int mwr, .int mwk, .int mlf, .int men]))] ++ ws_3) := ty_permD hD (ty_ordp (E := [(mo, .inr (11, [.ref mw, .ref ma, .ref mf, .ref m0, .ref m1, .ref mu, .ref mv, .ref u0, .ref u1, .ref iz, .int 0, .ref mb, .int mn, .int mpt, .int mbg, .int mwr, .int mwk, .int mlf, .int men])), (mw, .inl (ct 0, 958, .inl f))]) (E2 := [(mw, .inl (ct 0, 958, .inl f)), (mo, .inr (11, [.ref mw, .ref ma, .ref mf, .ref m0, .ref m1, .ref mu, .ref mv, .ref u0, .ref u1, .ref iz, .int 0, .ref mb, .int mn, .int mpt, .int mbg, .int mwr, .int mwk, .int mlf, .int men]))]) (n := 2) [1, 0] rfl rfl (by decide))
    refine ty_ki (wr := [(mw, .inl (ct 0, 958, .inl f))]) (wc := ([(mo, .inr (11, [.ref mw, .ref ma, .ref mf, .ref m0, .ref m1, .ref mu, .ref mv, .ref u0, .ref u1, .ref iz, .int 0, .ref mb, .int mn, .int mpt, .int mbg, .int mwr, .int mwk, .int mlf, .int men]))] ++ ws_3)) (va_runV (As := [.int 1, .int 1]) (rest := []) ⟨hx, hb, hml, hown, hts⟩ (m_X11_throwsIf l D ct S ws_3 mo mw ma mf m0 m1 mu mv u0 u1 iz mb (0 : Int32) mn mpt mbg mwr mwk mlf men (1 : Int32) (1 : Int32) _ hT h_mu h_mv h_u0 h_u1 (by decide)) (cm_V 2 hts kc_X11_throwsIf ki_RX11 kl_RX11_328 kv_X11_throwsIf kx_X11_throwsIf kd_X11_throwsIf ⟨Nat.le_of_ble_eq_true rfl, Nat.le_of_ble_eq_true rfl⟩) (ty_preE (wr := [(mw, .inl (ct 0, 958, .inl f))]) (wc := ([(mo, .inr (11, [.ref mw, .ref ma, .ref mf, .ref m0, .ref m1, .ref mu, .ref mv, .ref u0, .ref u1, .ref iz, .int 0, .ref mb, .int mn, .int mpt, .int mbg, .int mwr, .int mwk, .int mlf, .int men]))] ++ ws_3)) (ci := 11) (q0 := 1) hP hK hD hS hA hX rfl rfl) rfl rfl hl.1 rfl (lv_room (Nat.le_of_ble_eq_true rfl)) dX11_setAmbient_24 ⟨Nat.le_of_ble_eq_true rfl, Nat.le_of_ble_eq_true rfl⟩) hP hD hS hA (fun r_16 u H locs hw_17 hP hD hS => ?_)
    obtain ⟨ws_18, th1_19⟩ := u
    obtain ⟨hT, hp_20⟩ := hw_17
    have hp_20 : ((r_16 = 0 ∧ (1 : Int32) = 0) ∨ r_16 = 1) := hp_20
    have hP : va_P D vwCl ([(mw, .inl (ct 0, 958, .inl f)), (mo, .inr (11, [.ref mw, .ref ma, .ref mf, .ref m0, .ref m1, .ref mu, .ref mv, .ref u0, .ref u1, .ref iz, .int th1_19, .ref mb, .int mn, .int mpt, .int mbg, .int mwr, .int mwk, .int mlf, .int men]))] ++ ws_18) H := hP
    have hD : va_D A ([(mw, .inl (ct 0, 958, .inl f)), (mo, .inr (11, [.ref mw, .ref ma, .ref mf, .ref m0, .ref m1, .ref mu, .ref mv, .ref u0, .ref u1, .ref iz, .int th1_19, .ref mb, .int mn, .int mpt, .int mbg, .int mwr, .int mwk, .int mlf, .int men]))] ++ ws_18) := hD
    rcases hp_20 with ⟨rfl, hz_21⟩ | rfl
    · exact absurd hz_21 (by decide)
    · refine lv_if_eq (tgt := 32) hx hb dX11_setAmbient_27 (by decide) (fun hc => absurd hc (by decide)) (fun _ => ?_)
      refine lv_iconst (v := 0) hx hb dX11_setAmbient_30 (by decide) ?_
      have hP : va_P D vwCl ([(mo, .inr (11, [.ref mw, .ref ma, .ref mf, .ref m0, .ref m1, .ref mu, .ref mv, .ref u0, .ref u1, .ref iz, .int th1_19, .ref mb, .int mn, .int mpt, .int mbg, .int mwr, .int mwk, .int mlf, .int men])), (mw, .inl (ct 0, 958, .inl f))] ++ ws_18) H := ty_permP hP (ty_ordp (E := [(mw, .inl (ct 0, 958, .inl f)), (mo, .inr (11, [.ref mw, .ref ma, .ref mf, .ref m0, .ref m1, .ref mu, .ref mv, .ref u0, .ref u1, .ref iz, .int th1_19, .ref mb, .int mn, .int mpt, .int mbg, .int mwr, .int mwk, .int mlf, .int men]))]) (E2 := [(mo, .inr (11, [.ref mw, .ref ma, .ref mf, .ref m0, .ref m1, .ref mu, .ref mv, .ref u0, .ref u1, .ref iz, .int th1_19, .ref mb, .int mn, .int mpt, .int mbg, .int mwr, .int mwk, .int mlf, .int men])), (mw, .inl (ct 0, 958, .inl f))]) (n := 2) [1, 0] rfl rfl (by decide))
      have hD : va_D A ([(mo, .inr (11, [.ref mw, .ref ma, .ref mf, .ref m0, .ref m1, .ref mu, .ref mv, .ref u0, .ref u1, .ref iz, .int th1_19, .ref mb, .int mn, .int mpt, .int mbg, .int mwr, .int mwk, .int mlf, .int men])), (mw, .inl (ct 0, 958, .inl f))] ++ ws_18) := ty_permD hD (ty_ordp (E := [(mw, .inl (ct 0, 958, .inl f)), (mo, .inr (11, [.ref mw, .ref ma, .ref mf, .ref m0, .ref m1, .ref mu, .ref mv, .ref u0, .ref u1, .ref iz, .int th1_19, .ref mb, .int mn, .int mpt, .int mbg, .int mwr, .int mwk, .int mlf, .int men]))]) (E2 := [(mo, .inr (11, [.ref mw, .ref ma, .ref mf, .ref m0, .ref m1, .ref mu, .ref mv, .ref u0, .ref u1, .ref iz, .int th1_19, .ref mb, .int mn, .int mpt, .int mbg, .int mwr, .int mwk, .int mlf, .int men])), (mw, .inl (ct 0, 958, .inl f))]) (n := 2) [1, 0] rfl rfl (by decide))
      exact W.iret (v := 0) hx hb hr (fun t ht hW => ⟨⟨0, (ws_18, th1_19, f), rfl, ⟨hT, ⟨hR, (rf_smr f)⟩⟩, by rw [ht]; exact hP, by rw [hAe]; exact hD⟩, hS.F ht⟩) hS.2.2 dX11_setAmbient_31
theorem dX11_setDerate_0 : decode cX11_setDerate 0 = .ok (.aload_n 0, 1) := by decide +kernel
theorem dX11_setDerate_1 : decode cX11_setDerate 1 = .ok (.iconst 0, 1) := by decide +kernel
theorem dX11_setDerate_2 : decode cX11_setDerate 2 = .ok (.putfield 49, 3) := by decide +kernel
theorem dX11_setDerate_5 : decode cX11_setDerate 5 = .ok (.aload_n 0, 1) := by decide +kernel
theorem dX11_setDerate_6 : decode cX11_setDerate 6 = .ok (.iload_n 1, 1) := by decide +kernel
theorem dX11_setDerate_7 : decode cX11_setDerate 7 = .ok (.i2l, 1) := by decide +kernel
theorem dX11_setDerate_8 : decode cX11_setDerate 8 = .ok (.lconst 0, 1) := by decide +kernel
theorem dX11_setDerate_9 : decode cX11_setDerate 9 = .ok (.ldc2_w 336, 3) := by decide +kernel
theorem dX11_setDerate_12 : decode cX11_setDerate 12 = .ok (.invokestatic 70, 3) := by decide +kernel
theorem dX11_setDerate_15 : decode cX11_setDerate 15 = .ok (.ifCond .ne 7, 3) := by decide +kernel
theorem dX11_setDerate_18 : decode cX11_setDerate 18 = .ok (.iconst 1, 1) := by decide +kernel
theorem dX11_setDerate_19 : decode cX11_setDerate 19 = .ok (.goto 4, 3) := by decide +kernel
theorem dX11_setDerate_22 : decode cX11_setDerate 22 = .ok (.iconst 0, 1) := by decide +kernel
theorem dX11_setDerate_23 : decode cX11_setDerate 23 = .ok (.iconst 1, 1) := by decide +kernel
theorem dX11_setDerate_24 : decode cX11_setDerate 24 = .ok (.invokevirtual 328, 3) := by decide +kernel
theorem dX11_setDerate_27 : decode cX11_setDerate 27 = .ok (.ifCond .eq 5, 3) := by decide +kernel
theorem dX11_setDerate_30 : decode cX11_setDerate 30 = .ok (.iconst 0, 1) := by decide +kernel
theorem dX11_setDerate_31 : decode cX11_setDerate 31 = .ok (.ireturn, 1) := by decide +kernel
theorem dX11_setDerate_32 : decode cX11_setDerate 32 = .ok (.aload_n 0, 1) := by decide +kernel
theorem dX11_setDerate_33 : decode cX11_setDerate 33 = .ok (.getfield 9, 3) := by decide +kernel
theorem dX11_setDerate_36 : decode cX11_setDerate 36 = .ok (.bipush 16, 2) := by decide +kernel
theorem dX11_setDerate_38 : decode cX11_setDerate 38 = .ok (.iaload, 1) := by decide +kernel
theorem dX11_setDerate_39 : decode cX11_setDerate 39 = .ok (.istore_n 2, 1) := by decide +kernel
theorem dX11_setDerate_40 : decode cX11_setDerate 40 = .ok (.aload_n 0, 1) := by decide +kernel
theorem dX11_setDerate_41 : decode cX11_setDerate 41 = .ok (.getfield 9, 3) := by decide +kernel
theorem dX11_setDerate_44 : decode cX11_setDerate 44 = .ok (.bipush 16, 2) := by decide +kernel
theorem dX11_setDerate_46 : decode cX11_setDerate 46 = .ok (.iload_n 1, 1) := by decide +kernel
theorem dX11_setDerate_47 : decode cX11_setDerate 47 = .ok (.iastore, 1) := by decide +kernel
theorem dX11_setDerate_48 : decode cX11_setDerate 48 = .ok (.iload_n 2, 1) := by decide +kernel
theorem dX11_setDerate_49 : decode cX11_setDerate 49 = .ok (.ireturn, 1) := by decide +kernel
set_option maxRecDepth 100000 in
set_option maxHeartbeats 4000000 in
theorem m_X11_setDerate (l : Launch) (D : va_G) (ct : Nat → ClassId) (S : ty_S) (ws : va_W) (mo : Nat) (mw : Nat) (ma : Nat) (mf : Nat) (m0 : Nat) (m1 : Nat) (mu : Nat) (mv : Nat) (u0 : Nat) (u1 : Nat) (iz : Nat) (mb : Nat) (th : Int32) (mn : Int32) (mpt : Int32) (mbg : Int32) (mwr : Int32) (mwk : Int32) (mlf : Int32) (men : Int32) (f : Nat → Int32) (G : Nat → Int32) (cx : Int) (p1 : Int32) (sz : Nat) (hT : ty_W ct S ws) (h_mu : S mu = some (.inr (1, 42))) (h_mv : S mv = some (.inr (1, 42))) (h_u0 : S u0 = some (.inr (1, 42))) (h_u1 : S u1 = some (.inr (1, 42))) (hR : rf_R G cx f) : Met l yX11_setDerate (ws_ yX11_setDerate cX11_setDerate 3 (some .int)) ({ frames := 1, cells := 0, slots := 0, locals := 25 } : Room) (va_Pc [.ref mo, .int p1] (cmP D ct sz ([(mo, .inr (11, [.ref mw, .ref ma, .ref mf, .ref m0, .ref m1, .ref mu, .ref mv, .ref u0, .ref u1, .ref iz, .int th, .ref mb, .int mn, .int mpt, .int mbg, .int mwr, .int mwk, .int mlf, .int men])), (mw, .inl (ct 0, 958, .inl f))] ++ ws))) (va_Qi (fun (r : Int32) (u : va_W × Int32 × (Nat → Int32)) => match u with | (u9, th1, f1) => ty_W ct S u9 ∧ rf_R G cx f1 ∧ rf_sm f f1) (cmB D ([(mo, .inr (11, [.ref mw, .ref ma, .ref mf, .ref m0, .ref m1, .ref mu, .ref mv, .ref u0, .ref u1, .ref iz, .int th, .ref mb, .int mn, .int mpt, .int mbg, .int mwr, .int mwk, .int mlf, .int men])), (mw, .inl (ct 0, 958, .inl f))] ++ ws) sz (fun (u : va_W × Int32 × (Nat → Int32)) => match u with | (u9, th1, f1) => ([(mo, .inr (11, [.ref mw, .ref ma, .ref mf, .ref m0, .ref m1, .ref mu, .ref mv, .ref u0, .ref u1, .ref iz, .int th1, .ref mb, .int mn, .int mpt, .int mbg, .int mwr, .int mwk, .int mlf, .int men])), (mw, .inl (ct 0, 958, .inl f1))] ++ u9))) (va_A ([(mo, .inr (11, [.ref mw, .ref ma, .ref mf, .ref m0, .ref m1, .ref mu, .ref mv, .ref u0, .ref u1, .ref iz, .int th, .ref mb, .int mn, .int mpt, .int mbg, .int mwr, .int mwk, .int mlf, .int men])), (mw, .inl (ct 0, 958, .inl f))] ++ ws) sz)) 0 0 (va_A ([(mo, .inr (11, [.ref mw, .ref ma, .ref mf, .ref m0, .ref m1, .ref mu, .ref mv, .ref u0, .ref u1, .ref iz, .int th, .ref mb, .int mn, .int mpt, .int mbg, .int mwr, .int mwk, .int mlf, .int men])), (mw, .inl (ct 0, 958, .inl f))] ++ ws) sz) := by
  refine Met.ofW (cc := cX11_setDerate) (maxL := 3) (ret := (some .int)) (by decide) rfl ?_
  intro p e s m args below meth c s₁ B hml hv
  obtain ⟨rfl, hsz, hP, hK, hD0, hX⟩ := hv
  have hx := B.exec
  have hb := B.bytes
  have hr := B.returns
  have hts := ws_all (atoms_spec (ws := ws_ yX11_setDerate cX11_setDerate 3 (some .int)) B.pre)
  have hown : s.vm.findClass RX11 = some m.cls := findClass_of_methodNamed B.named
  have hlocks := B.notSynchronized
  subst hsz
  have hD := hD0.self (sz := s.heap.size)
  generalize hAe : va_A ([(mo, .inr (11, [.ref mw, .ref ma, .ref mf, .ref m0, .ref m1, .ref mu, .ref mv, .ref u0, .ref u1, .ref iz, .int th, .ref mb, .int mn, .int mpt, .int mbg, .int mwr, .int mwk, .int mlf, .int men])), (mw, .inl (ct 0, 958, .inl f))] ++ ws) s.heap.size = A at hD hX ⊢
  have hA : ∀ q : Nat, s.heap.size ≤ q → A q := fun q h => by rw [← hAe]; exact Or.inr h
  have hS : va_S A s.heap s.heap [] := va_S.rf
  have hl := lv_entry ([.ref mo, .int p1]) (n := 3) (Nat.le_of_ble_eq_true rfl)
  rw [lg_entry_eq]
  generalize (lg_sl ([.ref mo, .int p1]) ++ List.replicate (3 - (lg_sl ([.ref mo, .int p1])).length) Slot.unset).toArray = ls at hl ⊢
  have hl : lv_has ls 3 [(0, .ref mo), (1, .int p1)] := hl
  refine lv_aload_n hx hb dX11_setDerate_0 rfl (lv_at hl 0 rfl) ?_
  refine lv_iconst (v := 0) hx hb dX11_setDerate_1 (by decide) ?_
  refine va_put (v := .int 0) (ty := .int) (D := D) (ci := 11) (C := RX11) (T := TX11) (N := 19) hx hb hts in_X11 tyX11 tyX11_ok nmX11 hown hK hP hD hS 0 rfl rfl 10 (by decide) (hts _ kl_RX11_49) (fun _ h9 => h9) rfl (by decide +kernel) rfl rfl (Nat.le_of_ble_eq_true rfl) dX11_setDerate_2 (fun H locs hP hD hS => ?_)
  have hP : va_P D vwCl ([(mo, .inr (11, [.ref mw, .ref ma, .ref mf, .ref m0, .ref m1, .ref mu, .ref mv, .ref u0, .ref u1, .ref iz, .int 0, .ref mb, .int mn, .int mpt, .int mbg, .int mwr, .int mwk, .int mlf, .int men])), (mw, .inl (ct 0, 958, .inl f))] ++ ws) H := hP
  have hD : va_D A ([(mo, .inr (11, [.ref mw, .ref ma, .ref mf, .ref m0, .ref m1, .ref mu, .ref mv, .ref u0, .ref u1, .ref iz, .int 0, .ref mb, .int mn, .int mpt, .int mbg, .int mwr, .int mwk, .int mlf, .int men])), (mw, .inl (ct 0, 958, .inl f))] ++ ws) := hD
  refine lv_aload_n hx hb dX11_setDerate_5 rfl (lv_at hl 0 rfl) ?_
  refine lv_iload_n hx hb dX11_setDerate_6 rfl (lv_at hl 1 rfl) ?_
  refine lv_i2l hx hb dX11_setDerate_7 rfl ?_
  refine lv_lconst (v := 0) hx hb dX11_setDerate_8 (by decide) ?_
  refine lv_ldc2 hx hb hown (hts _ kl_RX11_336) dX11_setDerate_9 ?_
  refine ty_ki (wr := [(mo, .inr (11, [.ref mw, .ref ma, .ref mf, .ref m0, .ref m1, .ref mu, .ref mv, .ref u0, .ref u1, .ref iz, .int 0, .ref mb, .int mn, .int mpt, .int mbg, .int mwr, .int mwk, .int mlf, .int men])), (mw, .inl (ct 0, 958, .inl f))]) (wc := ([] ++ ws)) (va_runS (As := [.long p1.toInt64, .long 0, .long 200]) (rest := [.ref mo]) ⟨hx, hb, hml, hown, hts⟩ (m_X11_in l D ct S ws p1.toInt64 (0 : Int64) (200 : Int64) _ hT) (cm_S 3 hts kc_X11_in ki_RX11 kl_RX11_70 ks_X11_in kd_X11_in ⟨Nat.le_of_ble_eq_true rfl, Nat.le_of_ble_eq_true rfl⟩) (ty_preS (wr := [(mo, .inr (11, [.ref mw, .ref ma, .ref mf, .ref m0, .ref m1, .ref mu, .ref mv, .ref u0, .ref u1, .ref iz, .int 0, .ref mb, .int mn, .int mpt, .int mbg, .int mwr, .int mwk, .int mlf, .int men])), (mw, .inl (ct 0, 958, .inl f))]) (wc := ([] ++ ws)) hP hK hD hS hA hX) rfl rfl hl.1 rfl (lv_room (Nat.le_of_ble_eq_true rfl)) dX11_setDerate_12 ⟨Nat.le_of_ble_eq_true rfl, Nat.le_of_ble_eq_true rfl⟩) hP hD hS hA (fun r_1 u H locs hw_2 hP hD hS => ?_)
  obtain ⟨ws_3, rfl⟩ : ∃ z, z = u := ⟨_, rfl⟩
  obtain ⟨hT, rfl⟩ := hw_2
  have hP : va_P D vwCl ([(mo, .inr (11, [.ref mw, .ref ma, .ref mf, .ref m0, .ref m1, .ref mu, .ref mv, .ref u0, .ref u1, .ref iz, .int 0, .ref mb, .int mn, .int mpt, .int mbg, .int mwr, .int mwk, .int mlf, .int men])), (mw, .inl (ct 0, 958, .inl f))] ++ ws_3) H := hP
  have hD : va_D A ([(mo, .inr (11, [.ref mw, .ref ma, .ref mf, .ref m0, .ref m1, .ref mu, .ref mv, .ref u0, .ref u1, .ref iz, .int 0, .ref mb, .int mn, .int mpt, .int mbg, .int mwr, .int mwk, .int mlf, .int men])), (mw, .inl (ct 0, 958, .inl f))] ++ ws_3) := hD
  refine lv_if_ne (tgt := 22) hx hb dX11_setDerate_15 (by decide) (fun hc_4 => ?_) (fun hc_4 => ?_)
  · refine lv_iconst (v := 0) hx hb dX11_setDerate_22 (by decide) ?_
    refine lv_iconst (v := 1) hx hb dX11_setDerate_23 (by decide) ?_
    have hP : va_P D vwCl ([(mw, .inl (ct 0, 958, .inl f)), (mo, .inr (11, [.ref mw, .ref ma, .ref mf, .ref m0, .ref m1, .ref mu, .ref mv, .ref u0, .ref u1, .ref iz, .int 0, .ref mb, .int mn, .int mpt, .int mbg, .int mwr, .int mwk, .int mlf, .int men]))] ++ ws_3) H := ty_permP hP (ty_ordp (E := [(mo, .inr (11, [.ref mw, .ref ma, .ref mf, .ref m0, .ref m1, .ref mu, .ref mv, .ref u0, .ref u1, .ref iz, .int 0, .ref mb, .int mn, .int mpt, .int mbg, .int mwr, .int mwk, .int mlf, .int men])), (mw, .inl (ct 0, 958, .inl f))]) (E2 := [(mw, .inl (ct 0, 958, .inl f)), (mo, .inr (11, [.ref mw, .ref ma, .ref mf, .ref m0, .ref m1, .ref mu, .ref mv, .ref u0, .ref u1, .ref iz, .int 0, .ref mb, .int mn, .int mpt, .int mbg, .int mwr, .int mwk, .int mlf, .int men]))]) (n := 2) [1, 0] rfl rfl (by decide))
    have hD : va_D A ([(mw, .inl (ct 0, 958, .inl f)), (mo, .inr (11, [.ref mw, .ref ma, .ref mf, .ref m0, .ref m1, .ref mu, .ref mv, .ref u0, .ref u1, .ref iz, .int 0, .ref mb, .int mn, .int mpt, .int mbg, .int mwr, .int mwk, .int mlf, .int men]))] ++ ws_3) := ty_permD hD (ty_ordp (E := [(mo, .inr (11, [.ref mw, .ref ma, .ref mf, .ref m0, .ref m1, .ref mu, .ref mv, .ref u0, .ref u1, .ref iz, .int 0, .ref mb, .int mn, .int mpt, .int mbg, .int mwr, .int mwk, .int mlf, .int men])), (mw, .inl (ct 0, 958, .inl f))]) (E2 := [(mw, .inl (ct 0, 958, .inl f)), (mo, .inr (11, [.ref mw, .ref ma, .ref mf, .ref m0, .ref m1, .ref mu, .ref mv, .ref u0, .ref u1, .ref iz, .int 0, .ref mb, .int mn, .int mpt, .int mbg, .int mwr, .int mwk, .int mlf, .int men]))]) (n := 2) [1, 0] rfl rfl (by decide))
    refine ty_ki (wr := [(mw, .inl (ct 0, 958, .inl f))]) (wc := ([(mo, .inr (11, [.ref mw, .ref ma, .ref mf, .ref m0, .ref m1, .ref mu, .ref mv, .ref u0, .ref u1, .ref iz, .int 0, .ref mb, .int mn, .int mpt, .int mbg, .int mwr, .int mwk, .int mlf, .int men]))] ++ ws_3)) (va_runV (As := [.int 0, .int 1]) (rest := []) ⟨hx, hb, hml, hown, hts⟩ (m_X11_throwsIf l D ct S ws_3 mo mw ma mf m0 m1 mu mv u0 u1 iz mb (0 : Int32) mn mpt mbg mwr mwk mlf men (0 : Int32) (1 : Int32) _ hT h_mu h_mv h_u0 h_u1 (by decide)) (cm_V 2 hts kc_X11_throwsIf ki_RX11 kl_RX11_328 kv_X11_throwsIf kx_X11_throwsIf kd_X11_throwsIf ⟨Nat.le_of_ble_eq_true rfl, Nat.le_of_ble_eq_true rfl⟩) (ty_preE (wr := [(mw, .inl (ct 0, 958, .inl f))]) (wc := ([(mo, .inr (11, [.ref mw, .ref ma, .ref mf, .ref m0, .ref m1, .ref mu, .ref mv, .ref u0, .ref u1, .ref iz, .int 0, .ref mb, .int mn, .int mpt, .int mbg, .int mwr, .int mwk, .int mlf, .int men]))] ++ ws_3)) (ci := 11) (q0 := 1) hP hK hD hS hA hX rfl rfl) rfl rfl hl.1 rfl (lv_room (Nat.le_of_ble_eq_true rfl)) dX11_setDerate_24 ⟨Nat.le_of_ble_eq_true rfl, Nat.le_of_ble_eq_true rfl⟩) hP hD hS hA (fun r_5 u H locs hw_6 hP hD hS => ?_)
    obtain ⟨ws_7, th1_8⟩ := u
    obtain ⟨hT, hp_9⟩ := hw_6
    have hp_9 : ((r_5 = 0 ∧ (0 : Int32) = 0) ∨ r_5 = 1) := hp_9
    have hP : va_P D vwCl ([(mw, .inl (ct 0, 958, .inl f)), (mo, .inr (11, [.ref mw, .ref ma, .ref mf, .ref m0, .ref m1, .ref mu, .ref mv, .ref u0, .ref u1, .ref iz, .int th1_8, .ref mb, .int mn, .int mpt, .int mbg, .int mwr, .int mwk, .int mlf, .int men]))] ++ ws_7) H := hP
    have hD : va_D A ([(mw, .inl (ct 0, 958, .inl f)), (mo, .inr (11, [.ref mw, .ref ma, .ref mf, .ref m0, .ref m1, .ref mu, .ref mv, .ref u0, .ref u1, .ref iz, .int th1_8, .ref mb, .int mn, .int mpt, .int mbg, .int mwr, .int mwk, .int mlf, .int men]))] ++ ws_7) := hD
    rcases hp_9 with ⟨rfl, hz_10⟩ | rfl
    · refine lv_if_eq (tgt := 32) hx hb dX11_setDerate_27 (by decide) (fun _ => ?_) (fun hc => absurd (by decide) hc)
      refine lv_aload_n hx hb dX11_setDerate_32 rfl (lv_at hl 0 rfl) ?_
      refine va_get (v := .ref mw) (D := D) (ci := 11) (C := RX11) (T := TX11) (N := 19) hx hb hts in_X11 hown hK hP 1 rfl rfl 0 (by decide) (hts _ kl_RX11_9) (fun _ h9 => h9) rfl dX11_setDerate_33 ?_
      refine lv_bipush (v := 16) hx hb dX11_setDerate_36 (by decide) ?_
      refine va_iald hx hb hK hP 0 0 rfl rfl (cm_vin (by decide)) dX11_setDerate_38 ?_
      refine cm_cst (y := (f 16)) (by first | rfl | decide +kernel) ?_
      refine lv_istore_n (lv' := [(2, .int (f 16)), (0, .ref mo), (1, .int p1)]) hx hb dX11_setDerate_39 rfl hl (by decide) rfl (fun ls hl => ?_)
      refine lv_aload_n hx hb dX11_setDerate_40 rfl (lv_at hl 1 rfl) ?_
      refine va_get (v := .ref mw) (D := D) (ci := 11) (C := RX11) (T := TX11) (N := 19) hx hb hts in_X11 hown hK hP 1 rfl rfl 0 (by decide) (hts _ kl_RX11_9) (fun _ h9 => h9) rfl dX11_setDerate_41 ?_
      refine lv_bipush (v := 16) hx hb dX11_setDerate_44 (by decide) ?_
      refine lv_iload_n hx hb dX11_setDerate_46 rfl (lv_at hl 2 rfl) ?_
      refine va_iast hx hb hK hP hD hS 0 0 rfl rfl (cm_vin (by decide)) dX11_setDerate_47 (fun H locs hP hD hS => ?_)
      have hP : va_P D vwCl ([(mw, .inl (ct 0, 958, .inl (upd f (16 : Int32).toNatClampNeg p1))), (mo, .inr (11, [.ref mw, .ref ma, .ref mf, .ref m0, .ref m1, .ref mu, .ref mv, .ref u0, .ref u1, .ref iz, .int th1_8, .ref mb, .int mn, .int mpt, .int mbg, .int mwr, .int mwk, .int mlf, .int men]))] ++ ws_7) H := hP
      have hD : va_D A ([(mw, .inl (ct 0, 958, .inl (upd f (16 : Int32).toNatClampNeg p1))), (mo, .inr (11, [.ref mw, .ref ma, .ref mf, .ref m0, .ref m1, .ref mu, .ref mv, .ref u0, .ref u1, .ref iz, .int th1_8, .ref mb, .int mn, .int mpt, .int mbg, .int mwr, .int mwk, .int mlf, .int men]))] ++ ws_7) := hD
      have hU_12 : rf_R G cx (upd f (16 : Int32).toNatClampNeg p1) ∧ rf_sm f (upd f (16 : Int32).toNatClampNeg p1) := (rf_num _ hR (Or.inr (Or.inl ⟨by decide, (rf_rngc (L := 0) (U := 200) (by decide) (by decide) hc_4)⟩)))
      generalize hf_15 : (upd f (16 : Int32).toNatClampNeg p1) = f_11 at hP hD hU_12
      have hR_13 := hU_12.1
      have hM_14 := rf_smt (rf_smr f) hU_12.2
      refine lv_iload_n hx hb dX11_setDerate_48 rfl (lv_at hl 0 rfl) ?_
      have hP : va_P D vwCl ([(mo, .inr (11, [.ref mw, .ref ma, .ref mf, .ref m0, .ref m1, .ref mu, .ref mv, .ref u0, .ref u1, .ref iz, .int th1_8, .ref mb, .int mn, .int mpt, .int mbg, .int mwr, .int mwk, .int mlf, .int men])), (mw, .inl (ct 0, 958, .inl f_11))] ++ ws_7) H := ty_permP hP (ty_ordp (E := [(mw, .inl (ct 0, 958, .inl f_11)), (mo, .inr (11, [.ref mw, .ref ma, .ref mf, .ref m0, .ref m1, .ref mu, .ref mv, .ref u0, .ref u1, .ref iz, .int th1_8, .ref mb, .int mn, .int mpt, .int mbg, .int mwr, .int mwk, .int mlf, .int men]))]) (E2 := [(mo, .inr (11, [.ref mw, .ref ma, .ref mf, .ref m0, .ref m1, .ref mu, .ref mv, .ref u0, .ref u1, .ref iz, .int th1_8, .ref mb, .int mn, .int mpt, .int mbg, .int mwr, .int mwk, .int mlf, .int men])), (mw, .inl (ct 0, 958, .inl f_11))]) (n := 2) [1, 0] rfl rfl (by decide))
      have hD : va_D A ([(mo, .inr (11, [.ref mw, .ref ma, .ref mf, .ref m0, .ref m1, .ref mu, .ref mv, .ref u0, .ref u1, .ref iz, .int th1_8, .ref mb, .int mn, .int mpt, .int mbg, .int mwr, .int mwk, .int mlf, .int men])), (mw, .inl (ct 0, 958, .inl f_11))] ++ ws_7) := ty_permD hD (ty_ordp (E := [(mw, .inl (ct 0, 958, .inl f_11)), (mo, .inr (11, [.ref mw, .ref ma, .ref mf, .ref m0, .ref m1, .ref mu, .ref mv, .ref u0, .ref u1, .ref iz, .int th1_8, .ref mb, .int mn, .int mpt, .int mbg, .int mwr, .int mwk, .int mlf, .int men]))]) (E2 := [(mo, .inr (11, [.ref mw, .ref ma, .ref mf, .ref m0, .ref m1, .ref mu, .ref mv, .ref u0, .ref u1, .ref iz, .int th1_8, .ref mb, .int mn, .int mpt, .int mbg, .int mwr, .int mwk, .int mlf, .int men])), (mw, .inl (ct 0, 958, .inl f_11))]) (n := 2) [1, 0] rfl rfl (by decide))
      exact W.iret (v := (f 16)) hx hb hr (fun t ht hW => ⟨⟨(f 16), (ws_7, th1_8, f_11), rfl, ⟨hT, ⟨hR_13, hM_14⟩⟩, by rw [ht]; exact hP, by rw [hAe]; exact hD⟩, hS.F ht⟩) hS.2.2 dX11_setDerate_49
    · refine lv_if_eq (tgt := 32) hx hb dX11_setDerate_27 (by decide) (fun hc => absurd hc (by decide)) (fun _ => ?_)
      refine lv_iconst (v := 0) hx hb dX11_setDerate_30 (by decide) ?_
      have hP : va_P D vwCl ([(mo, .inr (11, [.ref mw, .ref ma, .ref mf, .ref m0, .ref m1, .ref mu, .ref mv, .ref u0, .ref u1, .ref iz, .int th1_8, .ref mb, .int mn, .int mpt, .int mbg, .int mwr, .int mwk, .int mlf, .int men])), (mw, .inl (ct 0, 958, .inl f))] ++ ws_7) H := ty_permP hP (ty_ordp (E := [(mw, .inl (ct 0, 958, .inl f)), (mo, .inr (11, [.ref mw, .ref ma, .ref mf, .ref m0, .ref m1, .ref mu, .ref mv, .ref u0, .ref u1, .ref iz, .int th1_8, .ref mb, .int mn, .int mpt, .int mbg, .int mwr, .int mwk, .int mlf, .int men]))]) (E2 := [(mo, .inr (11, [.ref mw, .ref ma, .ref mf, .ref m0, .ref m1, .ref mu, .ref mv, .ref u0, .ref u1, .ref iz, .int th1_8, .ref mb, .int mn, .int mpt, .int mbg, .int mwr, .int mwk, .int mlf, .int men])), (mw, .inl (ct 0, 958, .inl f))]) (n := 2) [1, 0] rfl rfl (by decide))
      have hD : va_D A ([(mo, .inr (11, [.ref mw, .ref ma, .ref mf, .ref m0, .ref m1, .ref mu, .ref mv, .ref u0, .ref u1, .ref iz, .int th1_8, .ref mb, .int mn, .int mpt, .int mbg, .int mwr, .int mwk, .int mlf, .int men])), (mw, .inl (ct 0, 958, .inl f))] ++ ws_7) := ty_permD hD (ty_ordp (E := [(mw, .inl (ct 0, 958, .inl f)), (mo, .inr (11, [.ref mw, .ref ma, .ref mf, .ref m0, .ref m1, .ref mu, .ref mv, .ref u0, .ref u1, .ref iz, .int th1_8, .ref mb, .int mn, .int mpt, .int mbg, .int mwr, .int mwk, .int mlf, .int men]))]) (E2 := [(mo, .inr (11, [.ref mw, .ref ma, .ref mf, .ref m0, .ref m1, .ref mu, .ref mv, .ref u0, .ref u1, .ref iz, .int th1_8, .ref mb, .int mn, .int mpt, .int mbg, .int mwr, .int mwk, .int mlf, .int men])), (mw, .inl (ct 0, 958, .inl f))]) (n := 2) [1, 0] rfl rfl (by decide))
      exact W.iret (v := 0) hx hb hr (fun t ht hW => ⟨⟨0, (ws_7, th1_8, f), rfl, ⟨hT, ⟨hR, (rf_smr f)⟩⟩, by rw [ht]; exact hP, by rw [hAe]; exact hD⟩, hS.F ht⟩) hS.2.2 dX11_setDerate_31
  · refine lv_iconst (v := 1) hx hb dX11_setDerate_18 (by decide) ?_
    refine lv_goto (tgt := 23) hx hb dX11_setDerate_19 (by decide) ?_
    refine lv_iconst (v := 1) hx hb dX11_setDerate_23 (by decide) ?_
    have hP : va_P D vwCl ([(mw, .inl (ct 0, 958, .inl f)), (mo, .inr (11, [.ref mw, .ref ma, .ref mf, .ref m0, .ref m1, .ref mu, .ref mv, .ref u0, .ref u1, .ref iz, .int 0, .ref mb, .int mn, .int mpt, .int mbg, .int mwr, .int mwk, .int mlf, .int men]))] ++ ws_3) H := ty_permP hP (ty_ordp (E := [(mo, .inr (11, [.ref mw, .ref ma, .ref mf, .ref m0, .ref m1, .ref mu, .ref mv, .ref u0, .ref u1, .ref iz, .int 0, .ref mb, .int mn, .int mpt, .int mbg, .int mwr, .int mwk, .int mlf, .int men])), (mw, .inl (ct 0, 958, .inl f))]) (E2 := [(mw, .inl (ct 0, 958, .inl f)), (mo, .inr (11, [.ref mw, .ref ma, .ref mf, .ref m0, .ref m1, .ref mu, .ref mv, .ref u0, .ref u1, .ref iz, .int 0, .ref mb, .int mn, .int mpt, .int mbg, .int mwr, .int mwk, .int mlf, .int men]))]) (n := 2) [1, 0] rfl rfl (by decide))
    have hD : va_D A ([(mw, .inl (ct 0, 958, .inl f)), (mo, .inr (11, [.ref mw, .ref ma, .ref mf, .ref m0, .ref m1, .ref mu, .ref mv, .ref u0, .ref u1, .ref iz, .int 0, .ref mb, .int mn, .int mpt, .int mbg, .int mwr, .int mwk, .int mlf, .int men]))] ++ ws_3) := ty_permD hD (ty_ordp (E := [(mo, .inr (11, [.ref mw, .ref ma, .ref mf, .ref m0, .ref m1, .ref mu, .ref mv, .ref u0, .ref u1, .ref iz, .int 0, .ref mb, .int mn, .int mpt, .int mbg, .int mwr, .int mwk, .int mlf, .int men])), (mw, .inl (ct 0, 958, .inl f))]) (E2 := [(mw, .inl (ct 0, 958, .inl f)), (mo, .inr (11, [.ref mw, .ref ma, .ref mf, .ref m0, .ref m1, .ref mu, .ref mv, .ref u0, .ref u1, .ref iz, .int 0, .ref mb, .int mn, .int mpt, .int mbg, .int mwr, .int mwk, .int mlf, .int men]))]) (n := 2) [1, 0] rfl rfl (by decide))
    refine ty_ki (wr := [(mw, .inl (ct 0, 958, .inl f))]) (wc := ([(mo, .inr (11, [.ref mw, .ref ma, .ref mf, .ref m0, .ref m1, .ref mu, .ref mv, .ref u0, .ref u1, .ref iz, .int 0, .ref mb, .int mn, .int mpt, .int mbg, .int mwr, .int mwk, .int mlf, .int men]))] ++ ws_3)) (va_runV (As := [.int 1, .int 1]) (rest := []) ⟨hx, hb, hml, hown, hts⟩ (m_X11_throwsIf l D ct S ws_3 mo mw ma mf m0 m1 mu mv u0 u1 iz mb (0 : Int32) mn mpt mbg mwr mwk mlf men (1 : Int32) (1 : Int32) _ hT h_mu h_mv h_u0 h_u1 (by decide)) (cm_V 2 hts kc_X11_throwsIf ki_RX11 kl_RX11_328 kv_X11_throwsIf kx_X11_throwsIf kd_X11_throwsIf ⟨Nat.le_of_ble_eq_true rfl, Nat.le_of_ble_eq_true rfl⟩) (ty_preE (wr := [(mw, .inl (ct 0, 958, .inl f))]) (wc := ([(mo, .inr (11, [.ref mw, .ref ma, .ref mf, .ref m0, .ref m1, .ref mu, .ref mv, .ref u0, .ref u1, .ref iz, .int 0, .ref mb, .int mn, .int mpt, .int mbg, .int mwr, .int mwk, .int mlf, .int men]))] ++ ws_3)) (ci := 11) (q0 := 1) hP hK hD hS hA hX rfl rfl) rfl rfl hl.1 rfl (lv_room (Nat.le_of_ble_eq_true rfl)) dX11_setDerate_24 ⟨Nat.le_of_ble_eq_true rfl, Nat.le_of_ble_eq_true rfl⟩) hP hD hS hA (fun r_16 u H locs hw_17 hP hD hS => ?_)
    obtain ⟨ws_18, th1_19⟩ := u
    obtain ⟨hT, hp_20⟩ := hw_17
    have hp_20 : ((r_16 = 0 ∧ (1 : Int32) = 0) ∨ r_16 = 1) := hp_20
    have hP : va_P D vwCl ([(mw, .inl (ct 0, 958, .inl f)), (mo, .inr (11, [.ref mw, .ref ma, .ref mf, .ref m0, .ref m1, .ref mu, .ref mv, .ref u0, .ref u1, .ref iz, .int th1_19, .ref mb, .int mn, .int mpt, .int mbg, .int mwr, .int mwk, .int mlf, .int men]))] ++ ws_18) H := hP
    have hD : va_D A ([(mw, .inl (ct 0, 958, .inl f)), (mo, .inr (11, [.ref mw, .ref ma, .ref mf, .ref m0, .ref m1, .ref mu, .ref mv, .ref u0, .ref u1, .ref iz, .int th1_19, .ref mb, .int mn, .int mpt, .int mbg, .int mwr, .int mwk, .int mlf, .int men]))] ++ ws_18) := hD
    rcases hp_20 with ⟨rfl, hz_21⟩ | rfl
    · exact absurd hz_21 (by decide)
    · refine lv_if_eq (tgt := 32) hx hb dX11_setDerate_27 (by decide) (fun hc => absurd hc (by decide)) (fun _ => ?_)
      refine lv_iconst (v := 0) hx hb dX11_setDerate_30 (by decide) ?_
      have hP : va_P D vwCl ([(mo, .inr (11, [.ref mw, .ref ma, .ref mf, .ref m0, .ref m1, .ref mu, .ref mv, .ref u0, .ref u1, .ref iz, .int th1_19, .ref mb, .int mn, .int mpt, .int mbg, .int mwr, .int mwk, .int mlf, .int men])), (mw, .inl (ct 0, 958, .inl f))] ++ ws_18) H := ty_permP hP (ty_ordp (E := [(mw, .inl (ct 0, 958, .inl f)), (mo, .inr (11, [.ref mw, .ref ma, .ref mf, .ref m0, .ref m1, .ref mu, .ref mv, .ref u0, .ref u1, .ref iz, .int th1_19, .ref mb, .int mn, .int mpt, .int mbg, .int mwr, .int mwk, .int mlf, .int men]))]) (E2 := [(mo, .inr (11, [.ref mw, .ref ma, .ref mf, .ref m0, .ref m1, .ref mu, .ref mv, .ref u0, .ref u1, .ref iz, .int th1_19, .ref mb, .int mn, .int mpt, .int mbg, .int mwr, .int mwk, .int mlf, .int men])), (mw, .inl (ct 0, 958, .inl f))]) (n := 2) [1, 0] rfl rfl (by decide))
      have hD : va_D A ([(mo, .inr (11, [.ref mw, .ref ma, .ref mf, .ref m0, .ref m1, .ref mu, .ref mv, .ref u0, .ref u1, .ref iz, .int th1_19, .ref mb, .int mn, .int mpt, .int mbg, .int mwr, .int mwk, .int mlf, .int men])), (mw, .inl (ct 0, 958, .inl f))] ++ ws_18) := ty_permD hD (ty_ordp (E := [(mw, .inl (ct 0, 958, .inl f)), (mo, .inr (11, [.ref mw, .ref ma, .ref mf, .ref m0, .ref m1, .ref mu, .ref mv, .ref u0, .ref u1, .ref iz, .int th1_19, .ref mb, .int mn, .int mpt, .int mbg, .int mwr, .int mwk, .int mlf, .int men]))]) (E2 := [(mo, .inr (11, [.ref mw, .ref ma, .ref mf, .ref m0, .ref m1, .ref mu, .ref mv, .ref u0, .ref u1, .ref iz, .int th1_19, .ref mb, .int mn, .int mpt, .int mbg, .int mwr, .int mwk, .int mlf, .int men])), (mw, .inl (ct 0, 958, .inl f))]) (n := 2) [1, 0] rfl rfl (by decide))
      exact W.iret (v := 0) hx hb hr (fun t ht hW => ⟨⟨0, (ws_18, th1_19, f), rfl, ⟨hT, ⟨hR, (rf_smr f)⟩⟩, by rw [ht]; exact hP, by rw [hAe]; exact hD⟩, hS.F ht⟩) hS.2.2 dX11_setDerate_31
theorem dX11_setLimits_0 : decode cX11_setLimits 0 = .ok (.aload_n 0, 1) := by decide +kernel
theorem dX11_setLimits_1 : decode cX11_setLimits 1 = .ok (.iconst 0, 1) := by decide +kernel
theorem dX11_setLimits_2 : decode cX11_setLimits 2 = .ok (.putfield 49, 3) := by decide +kernel
theorem dX11_setLimits_5 : decode cX11_setLimits 5 = .ok (.aload_n 0, 1) := by decide +kernel
theorem dX11_setLimits_6 : decode cX11_setLimits 6 = .ok (.iload_n 1, 1) := by decide +kernel
theorem dX11_setLimits_7 : decode cX11_setLimits 7 = .ok (.i2l, 1) := by decide +kernel
theorem dX11_setLimits_8 : decode cX11_setLimits 8 = .ok (.lconst 0, 1) := by decide +kernel
theorem dX11_setLimits_9 : decode cX11_setLimits 9 = .ok (.ldc2_w 338, 3) := by decide +kernel
theorem dX11_setLimits_12 : decode cX11_setLimits 12 = .ok (.invokestatic 70, 3) := by decide +kernel
theorem dX11_setLimits_15 : decode cX11_setLimits 15 = .ok (.ifCond .eq 16, 3) := by decide +kernel
theorem dX11_setLimits_18 : decode cX11_setLimits 18 = .ok (.iload_n 2, 1) := by decide +kernel
theorem dX11_setLimits_19 : decode cX11_setLimits 19 = .ok (.i2l, 1) := by decide +kernel
theorem dX11_setLimits_20 : decode cX11_setLimits 20 = .ok (.iload_n 1, 1) := by decide +kernel
theorem dX11_setLimits_21 : decode cX11_setLimits 21 = .ok (.i2l, 1) := by decide +kernel
theorem dX11_setLimits_22 : decode cX11_setLimits 22 = .ok (.ldc2_w 338, 3) := by decide +kernel
theorem dX11_setLimits_25 : decode cX11_setLimits 25 = .ok (.invokestatic 70, 3) := by decide +kernel
theorem dX11_setLimits_28 : decode cX11_setLimits 28 = .ok (.ifCond .ne 7, 3) := by decide +kernel
theorem dX11_setLimits_31 : decode cX11_setLimits 31 = .ok (.iconst 1, 1) := by decide +kernel
theorem dX11_setLimits_32 : decode cX11_setLimits 32 = .ok (.goto 4, 3) := by decide +kernel
theorem dX11_setLimits_35 : decode cX11_setLimits 35 = .ok (.iconst 0, 1) := by decide +kernel
theorem dX11_setLimits_36 : decode cX11_setLimits 36 = .ok (.iconst 1, 1) := by decide +kernel
theorem dX11_setLimits_37 : decode cX11_setLimits 37 = .ok (.invokevirtual 328, 3) := by decide +kernel
theorem dX11_setLimits_40 : decode cX11_setLimits 40 = .ok (.ifCond .eq 5, 3) := by decide +kernel
theorem dX11_setLimits_43 : decode cX11_setLimits 43 = .ok (.iconst 0, 1) := by decide +kernel
theorem dX11_setLimits_44 : decode cX11_setLimits 44 = .ok (.ireturn, 1) := by decide +kernel
theorem dX11_setLimits_45 : decode cX11_setLimits 45 = .ok (.aload_n 0, 1) := by decide +kernel
theorem dX11_setLimits_46 : decode cX11_setLimits 46 = .ok (.getfield 9, 3) := by decide +kernel
theorem dX11_setLimits_49 : decode cX11_setLimits 49 = .ok (.iconst 4, 1) := by decide +kernel
theorem dX11_setLimits_50 : decode cX11_setLimits 50 = .ok (.iload_n 1, 1) := by decide +kernel
theorem dX11_setLimits_51 : decode cX11_setLimits 51 = .ok (.iastore, 1) := by decide +kernel
theorem dX11_setLimits_52 : decode cX11_setLimits 52 = .ok (.aload_n 0, 1) := by decide +kernel
theorem dX11_setLimits_53 : decode cX11_setLimits 53 = .ok (.getfield 9, 3) := by decide +kernel
theorem dX11_setLimits_56 : decode cX11_setLimits 56 = .ok (.iconst 5, 1) := by decide +kernel
theorem dX11_setLimits_57 : decode cX11_setLimits 57 = .ok (.iload_n 2, 1) := by decide +kernel
theorem dX11_setLimits_58 : decode cX11_setLimits 58 = .ok (.iastore, 1) := by decide +kernel
theorem dX11_setLimits_59 : decode cX11_setLimits 59 = .ok (.iconst 0, 1) := by decide +kernel
theorem dX11_setLimits_60 : decode cX11_setLimits 60 = .ok (.istore_n 3, 1) := by decide +kernel
theorem dX11_setLimits_61 : decode cX11_setLimits 61 = .ok (.iconst 0, 1) := by decide +kernel
theorem dX11_setLimits_62 : decode cX11_setLimits 62 = .ok (.istore 4, 2) := by decide +kernel
theorem dX11_setLimits_64 : decode cX11_setLimits 64 = .ok (.iload 4, 2) := by decide +kernel
theorem dX11_setLimits_66 : decode cX11_setLimits 66 = .ok (.aload_n 0, 1) := by decide +kernel
theorem dX11_setLimits_67 : decode cX11_setLimits 67 = .ok (.getfield 9, 3) := by decide +kernel
theorem dX11_setLimits_70 : decode cX11_setLimits 70 = .ok (.bipush 9, 2) := by decide +kernel
theorem dX11_setLimits_72 : decode cX11_setLimits 72 = .ok (.iaload, 1) := by decide +kernel
theorem dX11_setLimits_73 : decode cX11_setLimits 73 = .ok (.if_icmp .ge 46, 3) := by decide +kernel
