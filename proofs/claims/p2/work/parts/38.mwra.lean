theorem dX11_step_0 : decode cX11_step 0 = .ok (.aload_n 0, 1) := by decide +kernel
theorem dX11_step_1 : decode cX11_step 1 = .ok (.aload_n 0, 1) := by decide +kernel
theorem dX11_step_2 : decode cX11_step 2 = .ok (.iload_n 1, 1) := by decide +kernel
theorem dX11_step_3 : decode cX11_step 3 = .ok (.iconst 1, 1) := by decide +kernel
theorem dX11_step_4 : decode cX11_step 4 = .ok (.invokevirtual 209, 3) := by decide +kernel
theorem dX11_step_7 : decode cX11_step 7 = .ok (.aload_n 0, 1) := by decide +kernel
theorem dX11_step_8 : decode cX11_step 8 = .ok (.iload_n 1, 1) := by decide +kernel
theorem dX11_step_9 : decode cX11_step 9 = .ok (.iconst 2, 1) := by decide +kernel
theorem dX11_step_10 : decode cX11_step 10 = .ok (.invokevirtual 209, 3) := by decide +kernel
theorem dX11_step_13 : decode cX11_step 13 = .ok (.iload_n 2, 1) := by decide +kernel
theorem dX11_step_14 : decode cX11_step 14 = .ok (.invokevirtual 218, 3) := by decide +kernel
theorem dX11_step_17 : decode cX11_step 17 = .ok (.ireturn, 1) := by decide +kernel
set_option maxRecDepth 100000 in
set_option maxHeartbeats 4000000 in
theorem m_step_0 (l : Launch) (D : va_G) (ct : Nat → ClassId) (S : ty_S) (ws : va_W) (mo : Nat) (mw : Nat) (ma : Nat) (mf : Nat) (m0 : Nat) (m1 : Nat) (mu : Nat) (mv : Nat) (u0 : Nat) (u1 : Nat) (iz : Nat) (mb : Nat) (th : Int32) (mn : Int32) (mpt : Int32) (mbg : Int32) (mwr : Int32) (mwk : Int32) (mlf : Int32) (men : Int32) (f : Nat → Int32) (G : Nat → Int32) (cx : Int) (p1 : Int32) (sz : Nat) (hT : ty_W ct S ws) (h_mu : S mu = some (.inr (1, 42))) (h_mv : S mv = some (.inr (1, 42))) (h_u0 : S u0 = some (.inr (1, 42))) (h_u1 : S u1 = some (.inr (1, 42))) (hR : rf_R G cx f) (hc : 0 ≤ p1.toInt ∧ p1.toInt < (G 9).toInt) (ho : rf_on G f p1) : Met l yX11_step (ws_ yX11_step cX11_step 3 (some .int)) ({ frames := 1, cells := 0, slots := 0, locals := 23 } : Room) (va_Pc [.ref mo, .int p1, .int 0] (cmP D ct sz ([(mo, .inr (11, [.ref mw, .ref ma, .ref mf, .ref m0, .ref m1, .ref mu, .ref mv, .ref u0, .ref u1, .ref iz, .int th, .ref mb, .int mn, .int mpt, .int mbg, .int mwr, .int mwk, .int mlf, .int men])), (mw, .inl (ct 0, 958, .inl f))] ++ ws))) (va_Qi (fun (r : Int32) (u9 : va_W) => ty_W ct S u9 ∧ r = (rf_st3 f p1 0)) (cmB D ([(mo, .inr (11, [.ref mw, .ref ma, .ref mf, .ref m0, .ref m1, .ref mu, .ref mv, .ref u0, .ref u1, .ref iz, .int th, .ref mb, .int mn, .int mpt, .int mbg, .int mwr, .int mwk, .int mlf, .int men])), (mw, .inl (ct 0, 958, .inl f))] ++ ws) sz (fun (u9 : va_W) => ([(mo, .inr (11, [.ref mw, .ref ma, .ref mf, .ref m0, .ref m1, .ref mu, .ref mv, .ref u0, .ref u1, .ref iz, .int th, .ref mb, .int mn, .int mpt, .int mbg, .int mwr, .int mwk, .int mlf, .int men])), (mw, .inl (ct 0, 958, .inl f))] ++ u9))) (va_A ([(mo, .inr (11, [.ref mw, .ref ma, .ref mf, .ref m0, .ref m1, .ref mu, .ref mv, .ref u0, .ref u1, .ref iz, .int th, .ref mb, .int mn, .int mpt, .int mbg, .int mwr, .int mwk, .int mlf, .int men])), (mw, .inl (ct 0, 958, .inl f))] ++ ws) sz)) 0 0 (va_A ([(mo, .inr (11, [.ref mw, .ref ma, .ref mf, .ref m0, .ref m1, .ref mu, .ref mv, .ref u0, .ref u1, .ref iz, .int th, .ref mb, .int mn, .int mpt, .int mbg, .int mwr, .int mwk, .int mlf, .int men])), (mw, .inl (ct 0, 958, .inl f))] ++ ws) sz) := by
  refine Met.ofW (cc := cX11_step) (maxL := 3) (ret := (some .int)) (by decide) rfl ?_
  intro p e s m args below meth c s₁ B hml hv
  obtain ⟨rfl, hsz, hP, hK, hD0, hX⟩ := hv
  have hx := B.exec
  have hb := B.bytes
  have hr := B.returns
  have hts := ws_all (atoms_spec (ws := ws_ yX11_step cX11_step 3 (some .int)) B.pre)
  have hown : s.vm.findClass RX11 = some m.cls := findClass_of_methodNamed B.named
  have hlocks := B.notSynchronized
  subst hsz
  have hD := hD0.self (sz := s.heap.size)
  generalize hAe : va_A ([(mo, .inr (11, [.ref mw, .ref ma, .ref mf, .ref m0, .ref m1, .ref mu, .ref mv, .ref u0, .ref u1, .ref iz, .int th, .ref mb, .int mn, .int mpt, .int mbg, .int mwr, .int mwk, .int mlf, .int men])), (mw, .inl (ct 0, 958, .inl f))] ++ ws) s.heap.size = A at hD hX ⊢
  have hA : ∀ q : Nat, s.heap.size ≤ q → A q := fun q h => by rw [← hAe]; exact Or.inr h
  have hS : va_S A s.heap s.heap [] := va_S.rf
  have hl := lv_entry ([.ref mo, .int p1, .int 0]) (n := 3) (Nat.le_of_ble_eq_true rfl)
  rw [lg_entry_eq]
  generalize (lg_sl ([.ref mo, .int p1, .int 0]) ++ List.replicate (3 - (lg_sl ([.ref mo, .int p1, .int 0])).length) Slot.unset).toArray = ls at hl ⊢
  have hl : lv_has ls 3 [(0, .ref mo), (1, .int p1), (2, .int 0)] := hl
  refine lv_aload_n hx hb dX11_step_0 rfl (lv_at hl 0 rfl) ?_
  refine lv_aload_n hx hb dX11_step_1 rfl (lv_at hl 0 rfl) ?_
  refine lv_iload_n hx hb dX11_step_2 rfl (lv_at hl 1 rfl) ?_
  refine lv_iconst (v := 1) hx hb dX11_step_3 (by decide) ?_
  refine ty_ki (wr := []) (wc := ([(mo, .inr (11, [.ref mw, .ref ma, .ref mf, .ref m0, .ref m1, .ref mu, .ref mv, .ref u0, .ref u1, .ref iz, .int th, .ref mb, .int mn, .int mpt, .int mbg, .int mwr, .int mwk, .int mlf, .int men])), (mw, .inl (ct 0, 958, .inl f))] ++ ws)) (va_runV (As := [.int p1, .int 1]) (rest := [.ref mo]) ⟨hx, hb, hml, hown, hts⟩ (m_of_1 l D ct S ws mo mw ma mf m0 m1 mu mv u0 u1 iz mb th mn mpt mbg mwr mwk mlf men f G cx p1 _ hT h_mu h_mv h_u0 h_u1 hR hc) (cm_V 2 hts kc_X11_of ki_RX11 kl_RX11_209 kv_X11_of kx_X11_of kd_X11_of ⟨Nat.le_of_ble_eq_true rfl, Nat.le_of_ble_eq_true rfl⟩) (ty_preE (wr := []) (wc := ([(mo, .inr (11, [.ref mw, .ref ma, .ref mf, .ref m0, .ref m1, .ref mu, .ref mv, .ref u0, .ref u1, .ref iz, .int th, .ref mb, .int mn, .int mpt, .int mbg, .int mwr, .int mwk, .int mlf, .int men])), (mw, .inl (ct 0, 958, .inl f))] ++ ws)) (ci := 11) (q0 := 0) hP hK hD hS hA hX rfl rfl) rfl rfl hl.1 rfl (lv_room (Nat.le_of_ble_eq_true rfl)) dX11_step_4 ⟨Nat.le_of_ble_eq_true rfl, Nat.le_of_ble_eq_true rfl⟩) hP hD hS hA (fun r_1 u H locs hw_2 hP hD hS => ?_)
  obtain ⟨ws_3, rfl⟩ : ∃ z, z = u := ⟨_, rfl⟩
  obtain ⟨hT, rfl⟩ := hw_2
  have hP : va_P D vwCl ([(mo, .inr (11, [.ref mw, .ref ma, .ref mf, .ref m0, .ref m1, .ref mu, .ref mv, .ref u0, .ref u1, .ref iz, .int th, .ref mb, .int mn, .int mpt, .int mbg, .int mwr, .int mwk, .int mlf, .int men])), (mw, .inl (ct 0, 958, .inl f))] ++ ws_3) H := hP
  have hD : va_D A ([(mo, .inr (11, [.ref mw, .ref ma, .ref mf, .ref m0, .ref m1, .ref mu, .ref mv, .ref u0, .ref u1, .ref iz, .int th, .ref mb, .int mn, .int mpt, .int mbg, .int mwr, .int mwk, .int mlf, .int men])), (mw, .inl (ct 0, 958, .inl f))] ++ ws_3) := hD
  refine lv_aload_n hx hb dX11_step_7 rfl (lv_at hl 0 rfl) ?_
  refine lv_iload_n hx hb dX11_step_8 rfl (lv_at hl 1 rfl) ?_
  refine lv_iconst (v := 2) hx hb dX11_step_9 (by decide) ?_
  refine ty_ki (wr := []) (wc := ([(mo, .inr (11, [.ref mw, .ref ma, .ref mf, .ref m0, .ref m1, .ref mu, .ref mv, .ref u0, .ref u1, .ref iz, .int th, .ref mb, .int mn, .int mpt, .int mbg, .int mwr, .int mwk, .int mlf, .int men])), (mw, .inl (ct 0, 958, .inl f))] ++ ws_3)) (va_runV (As := [.int p1, .int 2]) (rest := [.int (rf_of f p1 1), .ref mo]) ⟨hx, hb, hml, hown, hts⟩ (m_of_2 l D ct S ws_3 mo mw ma mf m0 m1 mu mv u0 u1 iz mb th mn mpt mbg mwr mwk mlf men f G cx p1 _ hT h_mu h_mv h_u0 h_u1 hR hc) (cm_V 2 hts kc_X11_of ki_RX11 kl_RX11_209 kv_X11_of kx_X11_of kd_X11_of ⟨Nat.le_of_ble_eq_true rfl, Nat.le_of_ble_eq_true rfl⟩) (ty_preE (wr := []) (wc := ([(mo, .inr (11, [.ref mw, .ref ma, .ref mf, .ref m0, .ref m1, .ref mu, .ref mv, .ref u0, .ref u1, .ref iz, .int th, .ref mb, .int mn, .int mpt, .int mbg, .int mwr, .int mwk, .int mlf, .int men])), (mw, .inl (ct 0, 958, .inl f))] ++ ws_3)) (ci := 11) (q0 := 0) hP hK hD hS hA hX rfl rfl) rfl rfl hl.1 rfl (lv_room (Nat.le_of_ble_eq_true rfl)) dX11_step_10 ⟨Nat.le_of_ble_eq_true rfl, Nat.le_of_ble_eq_true rfl⟩) hP hD hS hA (fun r_4 u H locs hw_5 hP hD hS => ?_)
  obtain ⟨ws_6, rfl⟩ : ∃ z, z = u := ⟨_, rfl⟩
  obtain ⟨hT, rfl⟩ := hw_5
  have hP : va_P D vwCl ([(mo, .inr (11, [.ref mw, .ref ma, .ref mf, .ref m0, .ref m1, .ref mu, .ref mv, .ref u0, .ref u1, .ref iz, .int th, .ref mb, .int mn, .int mpt, .int mbg, .int mwr, .int mwk, .int mlf, .int men])), (mw, .inl (ct 0, 958, .inl f))] ++ ws_6) H := hP
  have hD : va_D A ([(mo, .inr (11, [.ref mw, .ref ma, .ref mf, .ref m0, .ref m1, .ref mu, .ref mv, .ref u0, .ref u1, .ref iz, .int th, .ref mb, .int mn, .int mpt, .int mbg, .int mwr, .int mwk, .int mlf, .int men])), (mw, .inl (ct 0, 958, .inl f))] ++ ws_6) := hD
  refine lv_iload_n hx hb dX11_step_13 rfl (lv_at hl 2 rfl) ?_
  refine ty_ki (wr := []) (wc := ([(mo, .inr (11, [.ref mw, .ref ma, .ref mf, .ref m0, .ref m1, .ref mu, .ref mv, .ref u0, .ref u1, .ref iz, .int th, .ref mb, .int mn, .int mpt, .int mbg, .int mwr, .int mwk, .int mlf, .int men])), (mw, .inl (ct 0, 958, .inl f))] ++ ws_6)) (va_runV (As := [.int (rf_of f p1 1), .int (rf_of f p1 2), .int 0]) (rest := []) ⟨hx, hb, hml, hown, hts⟩ (m_stepOf_0 l D ct S ws_6 mo mw ma mf m0 m1 mu mv u0 u1 iz mb th mn mpt mbg mwr mwk mlf men f G cx (rf_of f p1 1) (rf_of f p1 2) _ hT h_mu h_mv h_u0 h_u1 hR (rf_onp hR ho).1 (rf_onp hR ho).2) (cm_V 3 hts kc_X11_stepOf ki_RX11 kl_RX11_218 kv_X11_stepOf kx_X11_stepOf kd_X11_stepOf ⟨Nat.le_of_ble_eq_true rfl, Nat.le_of_ble_eq_true rfl⟩) (ty_preE (wr := []) (wc := ([(mo, .inr (11, [.ref mw, .ref ma, .ref mf, .ref m0, .ref m1, .ref mu, .ref mv, .ref u0, .ref u1, .ref iz, .int th, .ref mb, .int mn, .int mpt, .int mbg, .int mwr, .int mwk, .int mlf, .int men])), (mw, .inl (ct 0, 958, .inl f))] ++ ws_6)) (ci := 11) (q0 := 0) hP hK hD hS hA hX rfl rfl) rfl rfl hl.1 rfl (lv_room (Nat.le_of_ble_eq_true rfl)) dX11_step_14 ⟨Nat.le_of_ble_eq_true rfl, Nat.le_of_ble_eq_true rfl⟩) hP hD hS hA (fun r_7 u H locs hw_8 hP hD hS => ?_)
  obtain ⟨ws_9, rfl⟩ : ∃ z, z = u := ⟨_, rfl⟩
  obtain ⟨hT, rfl⟩ := hw_8
  have hP : va_P D vwCl ([(mo, .inr (11, [.ref mw, .ref ma, .ref mf, .ref m0, .ref m1, .ref mu, .ref mv, .ref u0, .ref u1, .ref iz, .int th, .ref mb, .int mn, .int mpt, .int mbg, .int mwr, .int mwk, .int mlf, .int men])), (mw, .inl (ct 0, 958, .inl f))] ++ ws_9) H := hP
  have hD : va_D A ([(mo, .inr (11, [.ref mw, .ref ma, .ref mf, .ref m0, .ref m1, .ref mu, .ref mv, .ref u0, .ref u1, .ref iz, .int th, .ref mb, .int mn, .int mpt, .int mbg, .int mwr, .int mwk, .int mlf, .int men])), (mw, .inl (ct 0, 958, .inl f))] ++ ws_9) := hD
  exact W.iret (v := (f (97 + 37 * (rf_of f p1 1).toInt.toNat + 3 * (rf_of f p1 2).toInt.toNat + 0))) hx hb hr (fun t ht hW => ⟨⟨(f (97 + 37 * (rf_of f p1 1).toInt.toNat + 3 * (rf_of f p1 2).toInt.toNat + 0)), ws_9, rfl, ⟨hT, rfl⟩, by rw [ht]; exact hP, by rw [hAe]; exact hD⟩, hS.F ht⟩) hS.2.2 dX11_step_17
set_option maxRecDepth 100000 in
set_option maxHeartbeats 4000000 in
theorem m_step_1 (l : Launch) (D : va_G) (ct : Nat → ClassId) (S : ty_S) (ws : va_W) (mo : Nat) (mw : Nat) (ma : Nat) (mf : Nat) (m0 : Nat) (m1 : Nat) (mu : Nat) (mv : Nat) (u0 : Nat) (u1 : Nat) (iz : Nat) (mb : Nat) (th : Int32) (mn : Int32) (mpt : Int32) (mbg : Int32) (mwr : Int32) (mwk : Int32) (mlf : Int32) (men : Int32) (f : Nat → Int32) (G : Nat → Int32) (cx : Int) (p1 : Int32) (sz : Nat) (hT : ty_W ct S ws) (h_mu : S mu = some (.inr (1, 42))) (h_mv : S mv = some (.inr (1, 42))) (h_u0 : S u0 = some (.inr (1, 42))) (h_u1 : S u1 = some (.inr (1, 42))) (hR : rf_R G cx f) (hc : 0 ≤ p1.toInt ∧ p1.toInt < (G 9).toInt) (ho : rf_on G f p1) : Met l yX11_step (ws_ yX11_step cX11_step 3 (some .int)) ({ frames := 1, cells := 0, slots := 0, locals := 23 } : Room) (va_Pc [.ref mo, .int p1, .int 1] (cmP D ct sz ([(mo, .inr (11, [.ref mw, .ref ma, .ref mf, .ref m0, .ref m1, .ref mu, .ref mv, .ref u0, .ref u1, .ref iz, .int th, .ref mb, .int mn, .int mpt, .int mbg, .int mwr, .int mwk, .int mlf, .int men])), (mw, .inl (ct 0, 958, .inl f))] ++ ws))) (va_Qi (fun (r : Int32) (u9 : va_W) => ty_W ct S u9 ∧ r = (rf_st3 f p1 1)) (cmB D ([(mo, .inr (11, [.ref mw, .ref ma, .ref mf, .ref m0, .ref m1, .ref mu, .ref mv, .ref u0, .ref u1, .ref iz, .int th, .ref mb, .int mn, .int mpt, .int mbg, .int mwr, .int mwk, .int mlf, .int men])), (mw, .inl (ct 0, 958, .inl f))] ++ ws) sz (fun (u9 : va_W) => ([(mo, .inr (11, [.ref mw, .ref ma, .ref mf, .ref m0, .ref m1, .ref mu, .ref mv, .ref u0, .ref u1, .ref iz, .int th, .ref mb, .int mn, .int mpt, .int mbg, .int mwr, .int mwk, .int mlf, .int men])), (mw, .inl (ct 0, 958, .inl f))] ++ u9))) (va_A ([(mo, .inr (11, [.ref mw, .ref ma, .ref mf, .ref m0, .ref m1, .ref mu, .ref mv, .ref u0, .ref u1, .ref iz, .int th, .ref mb, .int mn, .int mpt, .int mbg, .int mwr, .int mwk, .int mlf, .int men])), (mw, .inl (ct 0, 958, .inl f))] ++ ws) sz)) 0 0 (va_A ([(mo, .inr (11, [.ref mw, .ref ma, .ref mf, .ref m0, .ref m1, .ref mu, .ref mv, .ref u0, .ref u1, .ref iz, .int th, .ref mb, .int mn, .int mpt, .int mbg, .int mwr, .int mwk, .int mlf, .int men])), (mw, .inl (ct 0, 958, .inl f))] ++ ws) sz) := by
  refine Met.ofW (cc := cX11_step) (maxL := 3) (ret := (some .int)) (by decide) rfl ?_
  intro p e s m args below meth c s₁ B hml hv
  obtain ⟨rfl, hsz, hP, hK, hD0, hX⟩ := hv
  have hx := B.exec
  have hb := B.bytes
  have hr := B.returns
  have hts := ws_all (atoms_spec (ws := ws_ yX11_step cX11_step 3 (some .int)) B.pre)
  have hown : s.vm.findClass RX11 = some m.cls := findClass_of_methodNamed B.named
  have hlocks := B.notSynchronized
  subst hsz
  have hD := hD0.self (sz := s.heap.size)
  generalize hAe : va_A ([(mo, .inr (11, [.ref mw, .ref ma, .ref mf, .ref m0, .ref m1, .ref mu, .ref mv, .ref u0, .ref u1, .ref iz, .int th, .ref mb, .int mn, .int mpt, .int mbg, .int mwr, .int mwk, .int mlf, .int men])), (mw, .inl (ct 0, 958, .inl f))] ++ ws) s.heap.size = A at hD hX ⊢
  have hA : ∀ q : Nat, s.heap.size ≤ q → A q := fun q h => by rw [← hAe]; exact Or.inr h
  have hS : va_S A s.heap s.heap [] := va_S.rf
  have hl := lv_entry ([.ref mo, .int p1, .int 1]) (n := 3) (Nat.le_of_ble_eq_true rfl)
  rw [lg_entry_eq]
  generalize (lg_sl ([.ref mo, .int p1, .int 1]) ++ List.replicate (3 - (lg_sl ([.ref mo, .int p1, .int 1])).length) Slot.unset).toArray = ls at hl ⊢
  have hl : lv_has ls 3 [(0, .ref mo), (1, .int p1), (2, .int 1)] := hl
  refine lv_aload_n hx hb dX11_step_0 rfl (lv_at hl 0 rfl) ?_
  refine lv_aload_n hx hb dX11_step_1 rfl (lv_at hl 0 rfl) ?_
  refine lv_iload_n hx hb dX11_step_2 rfl (lv_at hl 1 rfl) ?_
  refine lv_iconst (v := 1) hx hb dX11_step_3 (by decide) ?_
  refine ty_ki (wr := []) (wc := ([(mo, .inr (11, [.ref mw, .ref ma, .ref mf, .ref m0, .ref m1, .ref mu, .ref mv, .ref u0, .ref u1, .ref iz, .int th, .ref mb, .int mn, .int mpt, .int mbg, .int mwr, .int mwk, .int mlf, .int men])), (mw, .inl (ct 0, 958, .inl f))] ++ ws)) (va_runV (As := [.int p1, .int 1]) (rest := [.ref mo]) ⟨hx, hb, hml, hown, hts⟩ (m_of_1 l D ct S ws mo mw ma mf m0 m1 mu mv u0 u1 iz mb th mn mpt mbg mwr mwk mlf men f G cx p1 _ hT h_mu h_mv h_u0 h_u1 hR hc) (cm_V 2 hts kc_X11_of ki_RX11 kl_RX11_209 kv_X11_of kx_X11_of kd_X11_of ⟨Nat.le_of_ble_eq_true rfl, Nat.le_of_ble_eq_true rfl⟩) (ty_preE (wr := []) (wc := ([(mo, .inr (11, [.ref mw, .ref ma, .ref mf, .ref m0, .ref m1, .ref mu, .ref mv, .ref u0, .ref u1, .ref iz, .int th, .ref mb, .int mn, .int mpt, .int mbg, .int mwr, .int mwk, .int mlf, .int men])), (mw, .inl (ct 0, 958, .inl f))] ++ ws)) (ci := 11) (q0 := 0) hP hK hD hS hA hX rfl rfl) rfl rfl hl.1 rfl (lv_room (Nat.le_of_ble_eq_true rfl)) dX11_step_4 ⟨Nat.le_of_ble_eq_true rfl, Nat.le_of_ble_eq_true rfl⟩) hP hD hS hA (fun r_1 u H locs hw_2 hP hD hS => ?_)
  obtain ⟨ws_3, rfl⟩ : ∃ z, z = u := ⟨_, rfl⟩
  obtain ⟨hT, rfl⟩ := hw_2
  have hP : va_P D vwCl ([(mo, .inr (11, [.ref mw, .ref ma, .ref mf, .ref m0, .ref m1, .ref mu, .ref mv, .ref u0, .ref u1, .ref iz, .int th, .ref mb, .int mn, .int mpt, .int mbg, .int mwr, .int mwk, .int mlf, .int men])), (mw, .inl (ct 0, 958, .inl f))] ++ ws_3) H := hP
  have hD : va_D A ([(mo, .inr (11, [.ref mw, .ref ma, .ref mf, .ref m0, .ref m1, .ref mu, .ref mv, .ref u0, .ref u1, .ref iz, .int th, .ref mb, .int mn, .int mpt, .int mbg, .int mwr, .int mwk, .int mlf, .int men])), (mw, .inl (ct 0, 958, .inl f))] ++ ws_3) := hD
  refine lv_aload_n hx hb dX11_step_7 rfl (lv_at hl 0 rfl) ?_
  refine lv_iload_n hx hb dX11_step_8 rfl (lv_at hl 1 rfl) ?_
  refine lv_iconst (v := 2) hx hb dX11_step_9 (by decide) ?_
  refine ty_ki (wr := []) (wc := ([(mo, .inr (11, [.ref mw, .ref ma, .ref mf, .ref m0, .ref m1, .ref mu, .ref mv, .ref u0, .ref u1, .ref iz, .int th, .ref mb, .int mn, .int mpt, .int mbg, .int mwr, .int mwk, .int mlf, .int men])), (mw, .inl (ct 0, 958, .inl f))] ++ ws_3)) (va_runV (As := [.int p1, .int 2]) (rest := [.int (rf_of f p1 1), .ref mo]) ⟨hx, hb, hml, hown, hts⟩ (m_of_2 l D ct S ws_3 mo mw ma mf m0 m1 mu mv u0 u1 iz mb th mn mpt mbg mwr mwk mlf men f G cx p1 _ hT h_mu h_mv h_u0 h_u1 hR hc) (cm_V 2 hts kc_X11_of ki_RX11 kl_RX11_209 kv_X11_of kx_X11_of kd_X11_of ⟨Nat.le_of_ble_eq_true rfl, Nat.le_of_ble_eq_true rfl⟩) (ty_preE (wr := []) (wc := ([(mo, .inr (11, [.ref mw, .ref ma, .ref mf, .ref m0, .ref m1, .ref mu, .ref mv, .ref u0, .ref u1, .ref iz, .int th, .ref mb, .int mn, .int mpt, .int mbg, .int mwr, .int mwk, .int mlf, .int men])), (mw, .inl (ct 0, 958, .inl f))] ++ ws_3)) (ci := 11) (q0 := 0) hP hK hD hS hA hX rfl rfl) rfl rfl hl.1 rfl (lv_room (Nat.le_of_ble_eq_true rfl)) dX11_step_10 ⟨Nat.le_of_ble_eq_true rfl, Nat.le_of_ble_eq_true rfl⟩) hP hD hS hA (fun r_4 u H locs hw_5 hP hD hS => ?_)
  obtain ⟨ws_6, rfl⟩ : ∃ z, z = u := ⟨_, rfl⟩
  obtain ⟨hT, rfl⟩ := hw_5
  have hP : va_P D vwCl ([(mo, .inr (11, [.ref mw, .ref ma, .ref mf, .ref m0, .ref m1, .ref mu, .ref mv, .ref u0, .ref u1, .ref iz, .int th, .ref mb, .int mn, .int mpt, .int mbg, .int mwr, .int mwk, .int mlf, .int men])), (mw, .inl (ct 0, 958, .inl f))] ++ ws_6) H := hP
  have hD : va_D A ([(mo, .inr (11, [.ref mw, .ref ma, .ref mf, .ref m0, .ref m1, .ref mu, .ref mv, .ref u0, .ref u1, .ref iz, .int th, .ref mb, .int mn, .int mpt, .int mbg, .int mwr, .int mwk, .int mlf, .int men])), (mw, .inl (ct 0, 958, .inl f))] ++ ws_6) := hD
  refine lv_iload_n hx hb dX11_step_13 rfl (lv_at hl 2 rfl) ?_
  refine ty_ki (wr := []) (wc := ([(mo, .inr (11, [.ref mw, .ref ma, .ref mf, .ref m0, .ref m1, .ref mu, .ref mv, .ref u0, .ref u1, .ref iz, .int th, .ref mb, .int mn, .int mpt, .int mbg, .int mwr, .int mwk, .int mlf, .int men])), (mw, .inl (ct 0, 958, .inl f))] ++ ws_6)) (va_runV (As := [.int (rf_of f p1 1), .int (rf_of f p1 2), .int 1]) (rest := []) ⟨hx, hb, hml, hown, hts⟩ (m_stepOf_1 l D ct S ws_6 mo mw ma mf m0 m1 mu mv u0 u1 iz mb th mn mpt mbg mwr mwk mlf men f G cx (rf_of f p1 1) (rf_of f p1 2) _ hT h_mu h_mv h_u0 h_u1 hR (rf_onp hR ho).1 (rf_onp hR ho).2) (cm_V 3 hts kc_X11_stepOf ki_RX11 kl_RX11_218 kv_X11_stepOf kx_X11_stepOf kd_X11_stepOf ⟨Nat.le_of_ble_eq_true rfl, Nat.le_of_ble_eq_true rfl⟩) (ty_preE (wr := []) (wc := ([(mo, .inr (11, [.ref mw, .ref ma, .ref mf, .ref m0, .ref m1, .ref mu, .ref mv, .ref u0, .ref u1, .ref iz, .int th, .ref mb, .int mn, .int mpt, .int mbg, .int mwr, .int mwk, .int mlf, .int men])), (mw, .inl (ct 0, 958, .inl f))] ++ ws_6)) (ci := 11) (q0 := 0) hP hK hD hS hA hX rfl rfl) rfl rfl hl.1 rfl (lv_room (Nat.le_of_ble_eq_true rfl)) dX11_step_14 ⟨Nat.le_of_ble_eq_true rfl, Nat.le_of_ble_eq_true rfl⟩) hP hD hS hA (fun r_7 u H locs hw_8 hP hD hS => ?_)
  obtain ⟨ws_9, rfl⟩ : ∃ z, z = u := ⟨_, rfl⟩
  obtain ⟨hT, rfl⟩ := hw_8
  have hP : va_P D vwCl ([(mo, .inr (11, [.ref mw, .ref ma, .ref mf, .ref m0, .ref m1, .ref mu, .ref mv, .ref u0, .ref u1, .ref iz, .int th, .ref mb, .int mn, .int mpt, .int mbg, .int mwr, .int mwk, .int mlf, .int men])), (mw, .inl (ct 0, 958, .inl f))] ++ ws_9) H := hP
  have hD : va_D A ([(mo, .inr (11, [.ref mw, .ref ma, .ref mf, .ref m0, .ref m1, .ref mu, .ref mv, .ref u0, .ref u1, .ref iz, .int th, .ref mb, .int mn, .int mpt, .int mbg, .int mwr, .int mwk, .int mlf, .int men])), (mw, .inl (ct 0, 958, .inl f))] ++ ws_9) := hD
  exact W.iret (v := (f (97 + 37 * (rf_of f p1 1).toInt.toNat + 3 * (rf_of f p1 2).toInt.toNat + 1))) hx hb hr (fun t ht hW => ⟨⟨(f (97 + 37 * (rf_of f p1 1).toInt.toNat + 3 * (rf_of f p1 2).toInt.toNat + 1)), ws_9, rfl, ⟨hT, rfl⟩, by rw [ht]; exact hP, by rw [hAe]; exact hD⟩, hS.F ht⟩) hS.2.2 dX11_step_17
set_option maxRecDepth 100000 in
set_option maxHeartbeats 4000000 in
theorem m_step_2 (l : Launch) (D : va_G) (ct : Nat → ClassId) (S : ty_S) (ws : va_W) (mo : Nat) (mw : Nat) (ma : Nat) (mf : Nat) (m0 : Nat) (m1 : Nat) (mu : Nat) (mv : Nat) (u0 : Nat) (u1 : Nat) (iz : Nat) (mb : Nat) (th : Int32) (mn : Int32) (mpt : Int32) (mbg : Int32) (mwr : Int32) (mwk : Int32) (mlf : Int32) (men : Int32) (f : Nat → Int32) (G : Nat → Int32) (cx : Int) (p1 : Int32) (sz : Nat) (hT : ty_W ct S ws) (h_mu : S mu = some (.inr (1, 42))) (h_mv : S mv = some (.inr (1, 42))) (h_u0 : S u0 = some (.inr (1, 42))) (h_u1 : S u1 = some (.inr (1, 42))) (hR : rf_R G cx f) (hc : 0 ≤ p1.toInt ∧ p1.toInt < (G 9).toInt) (ho : rf_on G f p1) : Met l yX11_step (ws_ yX11_step cX11_step 3 (some .int)) ({ frames := 1, cells := 0, slots := 0, locals := 23 } : Room) (va_Pc [.ref mo, .int p1, .int 2] (cmP D ct sz ([(mo, .inr (11, [.ref mw, .ref ma, .ref mf, .ref m0, .ref m1, .ref mu, .ref mv, .ref u0, .ref u1, .ref iz, .int th, .ref mb, .int mn, .int mpt, .int mbg, .int mwr, .int mwk, .int mlf, .int men])), (mw, .inl (ct 0, 958, .inl f))] ++ ws))) (va_Qi (fun (r : Int32) (u9 : va_W) => ty_W ct S u9 ∧ r = (rf_st3 f p1 2)) (cmB D ([(mo, .inr (11, [.ref mw, .ref ma, .ref mf, .ref m0, .ref m1, .ref mu, .ref mv, .ref u0, .ref u1, .ref iz, .int th, .ref mb, .int mn, .int mpt, .int mbg, .int mwr, .int mwk, .int mlf, .int men])), (mw, .inl (ct 0, 958, .inl f))] ++ ws) sz (fun (u9 : va_W) => ([(mo, .inr (11, [.ref mw, .ref ma, .ref mf, .ref m0, .ref m1, .ref mu, .ref mv, .ref u0, .ref u1, .ref iz, .int th, .ref mb, .int mn, .int mpt, .int mbg, .int mwr, .int mwk, .int mlf, .int men])), (mw, .inl (ct 0, 958, .inl f))] ++ u9))) (va_A ([(mo, .inr (11, [.ref mw, .ref ma, .ref mf, .ref m0, .ref m1, .ref mu, .ref mv, .ref u0, .ref u1, .ref iz, .int th, .ref mb, .int mn, .int mpt, .int mbg, .int mwr, .int mwk, .int mlf, .int men])), (mw, .inl (ct 0, 958, .inl f))] ++ ws) sz)) 0 0 (va_A ([(mo, .inr (11, [.ref mw, .ref ma, .ref mf, .ref m0, .ref m1, .ref mu, .ref mv, .ref u0, .ref u1, .ref iz, .int th, .ref mb, .int mn, .int mpt, .int mbg, .int mwr, .int mwk, .int mlf, .int men])), (mw, .inl (ct 0, 958, .inl f))] ++ ws) sz) := by
  refine Met.ofW (cc := cX11_step) (maxL := 3) (ret := (some .int)) (by decide) rfl ?_
  intro p e s m args below meth c s₁ B hml hv
  obtain ⟨rfl, hsz, hP, hK, hD0, hX⟩ := hv
  have hx := B.exec
  have hb := B.bytes
  have hr := B.returns
  have hts := ws_all (atoms_spec (ws := ws_ yX11_step cX11_step 3 (some .int)) B.pre)
  have hown : s.vm.findClass RX11 = some m.cls := findClass_of_methodNamed B.named
  have hlocks := B.notSynchronized
  subst hsz
  have hD := hD0.self (sz := s.heap.size)
  generalize hAe : va_A ([(mo, .inr (11, [.ref mw, .ref ma, .ref mf, .ref m0, .ref m1, .ref mu, .ref mv, .ref u0, .ref u1, .ref iz, .int th, .ref mb, .int mn, .int mpt, .int mbg, .int mwr, .int mwk, .int mlf, .int men])), (mw, .inl (ct 0, 958, .inl f))] ++ ws) s.heap.size = A at hD hX ⊢
  have hA : ∀ q : Nat, s.heap.size ≤ q → A q := fun q h => by rw [← hAe]; exact Or.inr h
  have hS : va_S A s.heap s.heap [] := va_S.rf
  have hl := lv_entry ([.ref mo, .int p1, .int 2]) (n := 3) (Nat.le_of_ble_eq_true rfl)
  rw [lg_entry_eq]
  generalize (lg_sl ([.ref mo, .int p1, .int 2]) ++ List.replicate (3 - (lg_sl ([.ref mo, .int p1, .int 2])).length) Slot.unset).toArray = ls at hl ⊢
  have hl : lv_has ls 3 [(0, .ref mo), (1, .int p1), (2, .int 2)] := hl
  refine lv_aload_n hx hb dX11_step_0 rfl (lv_at hl 0 rfl) ?_
  refine lv_aload_n hx hb dX11_step_1 rfl (lv_at hl 0 rfl) ?_
  refine lv_iload_n hx hb dX11_step_2 rfl (lv_at hl 1 rfl) ?_
  refine lv_iconst (v := 1) hx hb dX11_step_3 (by decide) ?_
  refine ty_ki (wr := []) (wc := ([(mo, .inr (11, [.ref mw, .ref ma, .ref mf, .ref m0, .ref m1, .ref mu, .ref mv, .ref u0, .ref u1, .ref iz, .int th, .ref mb, .int mn, .int mpt, .int mbg, .int mwr, .int mwk, .int mlf, .int men])), (mw, .inl (ct 0, 958, .inl f))] ++ ws)) (va_runV (As := [.int p1, .int 1]) (rest := [.ref mo]) ⟨hx, hb, hml, hown, hts⟩ (m_of_1 l D ct S ws mo mw ma mf m0 m1 mu mv u0 u1 iz mb th mn mpt mbg mwr mwk mlf men f G cx p1 _ hT h_mu h_mv h_u0 h_u1 hR hc) (cm_V 2 hts kc_X11_of ki_RX11 kl_RX11_209 kv_X11_of kx_X11_of kd_X11_of ⟨Nat.le_of_ble_eq_true rfl, Nat.le_of_ble_eq_true rfl⟩) (ty_preE (wr := []) (wc := ([(mo, .inr (11, [.ref mw, .ref ma, .ref mf, .ref m0, .ref m1, .ref mu, .ref mv, .ref u0, .ref u1, .ref iz, .int th, .ref mb, .int mn, .int mpt, .int mbg, .int mwr, .int mwk, .int mlf, .int men])), (mw, .inl (ct 0, 958, .inl f))] ++ ws)) (ci := 11) (q0 := 0) hP hK hD hS hA hX rfl rfl) rfl rfl hl.1 rfl (lv_room (Nat.le_of_ble_eq_true rfl)) dX11_step_4 ⟨Nat.le_of_ble_eq_true rfl, Nat.le_of_ble_eq_true rfl⟩) hP hD hS hA (fun r_1 u H locs hw_2 hP hD hS => ?_)
  obtain ⟨ws_3, rfl⟩ : ∃ z, z = u := ⟨_, rfl⟩
  obtain ⟨hT, rfl⟩ := hw_2
  have hP : va_P D vwCl ([(mo, .inr (11, [.ref mw, .ref ma, .ref mf, .ref m0, .ref m1, .ref mu, .ref mv, .ref u0, .ref u1, .ref iz, .int th, .ref mb, .int mn, .int mpt, .int mbg, .int mwr, .int mwk, .int mlf, .int men])), (mw, .inl (ct 0, 958, .inl f))] ++ ws_3) H := hP
  have hD : va_D A ([(mo, .inr (11, [.ref mw, .ref ma, .ref mf, .ref m0, .ref m1, .ref mu, .ref mv, .ref u0, .ref u1, .ref iz, .int th, .ref mb, .int mn, .int mpt, .int mbg, .int mwr, .int mwk, .int mlf, .int men])), (mw, .inl (ct 0, 958, .inl f))] ++ ws_3) := hD
  refine lv_aload_n hx hb dX11_step_7 rfl (lv_at hl 0 rfl) ?_
  refine lv_iload_n hx hb dX11_step_8 rfl (lv_at hl 1 rfl) ?_
  refine lv_iconst (v := 2) hx hb dX11_step_9 (by decide) ?_
  refine ty_ki (wr := []) (wc := ([(mo, .inr (11, [.ref mw, .ref ma, .ref mf, .ref m0, .ref m1, .ref mu, .ref mv, .ref u0, .ref u1, .ref iz, .int th, .ref mb, .int mn, .int mpt, .int mbg, .int mwr, .int mwk, .int mlf, .int men])), (mw, .inl (ct 0, 958, .inl f))] ++ ws_3)) (va_runV (As := [.int p1, .int 2]) (rest := [.int (rf_of f p1 1), .ref mo]) ⟨hx, hb, hml, hown, hts⟩ (m_of_2 l D ct S ws_3 mo mw ma mf m0 m1 mu mv u0 u1 iz mb th mn mpt mbg mwr mwk mlf men f G cx p1 _ hT h_mu h_mv h_u0 h_u1 hR hc) (cm_V 2 hts kc_X11_of ki_RX11 kl_RX11_209 kv_X11_of kx_X11_of kd_X11_of ⟨Nat.le_of_ble_eq_true rfl, Nat.le_of_ble_eq_true rfl⟩) (ty_preE (wr := []) (wc := ([(mo, .inr (11, [.ref mw, .ref ma, .ref mf, .ref m0, .ref m1, .ref mu, .ref mv, .ref u0, .ref u1, .ref iz, .int th, .ref mb, .int mn, .int mpt, .int mbg, .int mwr, .int mwk, .int mlf, .int men])), (mw, .inl (ct 0, 958, .inl f))] ++ ws_3)) (ci := 11) (q0 := 0) hP hK hD hS hA hX rfl rfl) rfl rfl hl.1 rfl (lv_room (Nat.le_of_ble_eq_true rfl)) dX11_step_10 ⟨Nat.le_of_ble_eq_true rfl, Nat.le_of_ble_eq_true rfl⟩) hP hD hS hA (fun r_4 u H locs hw_5 hP hD hS => ?_)
  obtain ⟨ws_6, rfl⟩ : ∃ z, z = u := ⟨_, rfl⟩
  obtain ⟨hT, rfl⟩ := hw_5
  have hP : va_P D vwCl ([(mo, .inr (11, [.ref mw, .ref ma, .ref mf, .ref m0, .ref m1, .ref mu, .ref mv, .ref u0, .ref u1, .ref iz, .int th, .ref mb, .int mn, .int mpt, .int mbg, .int mwr, .int mwk, .int mlf, .int men])), (mw, .inl (ct 0, 958, .inl f))] ++ ws_6) H := hP
  have hD : va_D A ([(mo, .inr (11, [.ref mw, .ref ma, .ref mf, .ref m0, .ref m1, .ref mu, .ref mv, .ref u0, .ref u1, .ref iz, .int th, .ref mb, .int mn, .int mpt, .int mbg, .int mwr, .int mwk, .int mlf, .int men])), (mw, .inl (ct 0, 958, .inl f))] ++ ws_6) := hD
  refine lv_iload_n hx hb dX11_step_13 rfl (lv_at hl 2 rfl) ?_
  refine ty_ki (wr := []) (wc := ([(mo, .inr (11, [.ref mw, .ref ma, .ref mf, .ref m0, .ref m1, .ref mu, .ref mv, .ref u0, .ref u1, .ref iz, .int th, .ref mb, .int mn, .int mpt, .int mbg, .int mwr, .int mwk, .int mlf, .int men])), (mw, .inl (ct 0, 958, .inl f))] ++ ws_6)) (va_runV (As := [.int (rf_of f p1 1), .int (rf_of f p1 2), .int 2]) (rest := []) ⟨hx, hb, hml, hown, hts⟩ (m_stepOf_2 l D ct S ws_6 mo mw ma mf m0 m1 mu mv u0 u1 iz mb th mn mpt mbg mwr mwk mlf men f G cx (rf_of f p1 1) (rf_of f p1 2) _ hT h_mu h_mv h_u0 h_u1 hR (rf_onp hR ho).1 (rf_onp hR ho).2) (cm_V 3 hts kc_X11_stepOf ki_RX11 kl_RX11_218 kv_X11_stepOf kx_X11_stepOf kd_X11_stepOf ⟨Nat.le_of_ble_eq_true rfl, Nat.le_of_ble_eq_true rfl⟩) (ty_preE (wr := []) (wc := ([(mo, .inr (11, [.ref mw, .ref ma, .ref mf, .ref m0, .ref m1, .ref mu, .ref mv, .ref u0, .ref u1, .ref iz, .int th, .ref mb, .int mn, .int mpt, .int mbg, .int mwr, .int mwk, .int mlf, .int men])), (mw, .inl (ct 0, 958, .inl f))] ++ ws_6)) (ci := 11) (q0 := 0) hP hK hD hS hA hX rfl rfl) rfl rfl hl.1 rfl (lv_room (Nat.le_of_ble_eq_true rfl)) dX11_step_14 ⟨Nat.le_of_ble_eq_true rfl, Nat.le_of_ble_eq_true rfl⟩) hP hD hS hA (fun r_7 u H locs hw_8 hP hD hS => ?_)
  obtain ⟨ws_9, rfl⟩ : ∃ z, z = u := ⟨_, rfl⟩
  obtain ⟨hT, rfl⟩ := hw_8
  have hP : va_P D vwCl ([(mo, .inr (11, [.ref mw, .ref ma, .ref mf, .ref m0, .ref m1, .ref mu, .ref mv, .ref u0, .ref u1, .ref iz, .int th, .ref mb, .int mn, .int mpt, .int mbg, .int mwr, .int mwk, .int mlf, .int men])), (mw, .inl (ct 0, 958, .inl f))] ++ ws_9) H := hP
  have hD : va_D A ([(mo, .inr (11, [.ref mw, .ref ma, .ref mf, .ref m0, .ref m1, .ref mu, .ref mv, .ref u0, .ref u1, .ref iz, .int th, .ref mb, .int mn, .int mpt, .int mbg, .int mwr, .int mwk, .int mlf, .int men])), (mw, .inl (ct 0, 958, .inl f))] ++ ws_9) := hD
  exact W.iret (v := (f (97 + 37 * (rf_of f p1 1).toInt.toNat + 3 * (rf_of f p1 2).toInt.toNat + 2))) hx hb hr (fun t ht hW => ⟨⟨(f (97 + 37 * (rf_of f p1 1).toInt.toNat + 3 * (rf_of f p1 2).toInt.toNat + 2)), ws_9, rfl, ⟨hT, rfl⟩, by rw [ht]; exact hP, by rw [hAe]; exact hD⟩, hS.F ht⟩) hS.2.2 dX11_step_17
theorem dX11_restAt_0 : decode cX11_restAt 0 = .ok (.aload_n 0, 1) := by decide +kernel
theorem dX11_restAt_1 : decode cX11_restAt 1 = .ok (.iload_n 1, 1) := by decide +kernel
theorem dX11_restAt_2 : decode cX11_restAt 2 = .ok (.bipush 11, 2) := by decide +kernel
theorem dX11_restAt_4 : decode cX11_restAt 4 = .ok (.invokevirtual 209, 3) := by decide +kernel
theorem dX11_restAt_7 : decode cX11_restAt 7 = .ok (.istore_n 3, 1) := by decide +kernel
theorem dX11_restAt_8 : decode cX11_restAt 8 = .ok (.aload_n 0, 1) := by decide +kernel
theorem dX11_restAt_9 : decode cX11_restAt 9 = .ok (.iload_n 3, 1) := by decide +kernel
theorem dX11_restAt_10 : decode cX11_restAt 10 = .ok (.invokevirtual 212, 3) := by decide +kernel
theorem dX11_restAt_13 : decode cX11_restAt 13 = .ok (.iconst 1, 1) := by decide +kernel
theorem dX11_restAt_14 : decode cX11_restAt 14 = .ok (.isub, 1) := by decide +kernel
theorem dX11_restAt_15 : decode cX11_restAt 15 = .ok (.istore 4, 2) := by decide +kernel
theorem dX11_restAt_17 : decode cX11_restAt 17 = .ok (.aload_n 0, 1) := by decide +kernel
theorem dX11_restAt_18 : decode cX11_restAt 18 = .ok (.iload_n 1, 1) := by decide +kernel
theorem dX11_restAt_19 : decode cX11_restAt 19 = .ok (.bipush 7, 2) := by decide +kernel
theorem dX11_restAt_21 : decode cX11_restAt 21 = .ok (.invokevirtual 209, 3) := by decide +kernel
theorem dX11_restAt_24 : decode cX11_restAt 24 = .ok (.i2l, 1) := by decide +kernel
theorem dX11_restAt_25 : decode cX11_restAt 25 = .ok (.lstore 5, 2) := by decide +kernel
theorem dX11_restAt_27 : decode cX11_restAt 27 = .ok (.iload_n 2, 1) := by decide +kernel
theorem dX11_restAt_28 : decode cX11_restAt 28 = .ok (.i2l, 1) := by decide +kernel
theorem dX11_restAt_29 : decode cX11_restAt 29 = .ok (.iload 4, 2) := by decide +kernel
theorem dX11_restAt_31 : decode cX11_restAt 31 = .ok (.i2l, 1) := by decide +kernel
theorem dX11_restAt_32 : decode cX11_restAt 32 = .ok (.lmul, 1) := by decide +kernel
theorem dX11_restAt_33 : decode cX11_restAt 33 = .ok (.lstore 7, 2) := by decide +kernel
theorem dX11_restAt_35 : decode cX11_restAt 35 = .ok (.lload 7, 2) := by decide +kernel
theorem dX11_restAt_37 : decode cX11_restAt 37 = .ok (.lload 5, 2) := by decide +kernel
theorem dX11_restAt_39 : decode cX11_restAt 39 = .ok (.ldiv, 1) := by decide +kernel
theorem dX11_restAt_40 : decode cX11_restAt 40 = .ok (.iload 4, 2) := by decide +kernel
theorem dX11_restAt_42 : decode cX11_restAt 42 = .ok (.iconst 1, 1) := by decide +kernel
theorem dX11_restAt_43 : decode cX11_restAt 43 = .ok (.isub, 1) := by decide +kernel
theorem dX11_restAt_44 : decode cX11_restAt 44 = .ok (.i2l, 1) := by decide +kernel
theorem dX11_restAt_45 : decode cX11_restAt 45 = .ok (.invokestatic 119, 3) := by decide +kernel
theorem dX11_restAt_48 : decode cX11_restAt 48 = .ok (.l2i, 1) := by decide +kernel
theorem dX11_restAt_49 : decode cX11_restAt 49 = .ok (.istore 9, 2) := by decide +kernel
theorem dX11_restAt_51 : decode cX11_restAt 51 = .ok (.aload_n 0, 1) := by decide +kernel
theorem dX11_restAt_52 : decode cX11_restAt 52 = .ok (.iload_n 3, 1) := by decide +kernel
theorem dX11_restAt_53 : decode cX11_restAt 53 = .ok (.iload 9, 2) := by decide +kernel
theorem dX11_restAt_55 : decode cX11_restAt 55 = .ok (.iconst 1, 1) := by decide +kernel
theorem dX11_restAt_56 : decode cX11_restAt 56 = .ok (.iadd, 1) := by decide +kernel
theorem dX11_restAt_57 : decode cX11_restAt 57 = .ok (.invokevirtual 215, 3) := by decide +kernel
theorem dX11_restAt_60 : decode cX11_restAt 60 = .ok (.aload_n 0, 1) := by decide +kernel
theorem dX11_restAt_61 : decode cX11_restAt 61 = .ok (.iload_n 3, 1) := by decide +kernel
theorem dX11_restAt_62 : decode cX11_restAt 62 = .ok (.iload 9, 2) := by decide +kernel
theorem dX11_restAt_64 : decode cX11_restAt 64 = .ok (.invokevirtual 215, 3) := by decide +kernel
theorem dX11_restAt_67 : decode cX11_restAt 67 = .ok (.isub, 1) := by decide +kernel
theorem dX11_restAt_68 : decode cX11_restAt 68 = .ok (.i2l, 1) := by decide +kernel
theorem dX11_restAt_69 : decode cX11_restAt 69 = .ok (.lstore 10, 2) := by decide +kernel
theorem dX11_restAt_71 : decode cX11_restAt 71 = .ok (.aload_n 0, 1) := by decide +kernel
theorem dX11_restAt_72 : decode cX11_restAt 72 = .ok (.iload_n 3, 1) := by decide +kernel
theorem dX11_restAt_73 : decode cX11_restAt 73 = .ok (.iload 9, 2) := by decide +kernel
theorem dX11_restAt_75 : decode cX11_restAt 75 = .ok (.invokevirtual 215, 3) := by decide +kernel
theorem dX11_restAt_78 : decode cX11_restAt 78 = .ok (.lload 10, 2) := by decide +kernel
theorem dX11_restAt_80 : decode cX11_restAt 80 = .ok (.lload 7, 2) := by decide +kernel
theorem dX11_restAt_82 : decode cX11_restAt 82 = .ok (.iload 9, 2) := by decide +kernel
theorem dX11_restAt_84 : decode cX11_restAt 84 = .ok (.i2l, 1) := by decide +kernel
theorem dX11_restAt_85 : decode cX11_restAt 85 = .ok (.lload 5, 2) := by decide +kernel
theorem dX11_restAt_87 : decode cX11_restAt 87 = .ok (.lmul, 1) := by decide +kernel
theorem dX11_restAt_88 : decode cX11_restAt 88 = .ok (.lsub, 1) := by decide +kernel
theorem dX11_restAt_89 : decode cX11_restAt 89 = .ok (.lmul, 1) := by decide +kernel
theorem dX11_restAt_90 : decode cX11_restAt 90 = .ok (.lload 5, 2) := by decide +kernel
theorem dX11_restAt_92 : decode cX11_restAt 92 = .ok (.ldiv, 1) := by decide +kernel
theorem dX11_restAt_93 : decode cX11_restAt 93 = .ok (.l2i, 1) := by decide +kernel
theorem dX11_restAt_94 : decode cX11_restAt 94 = .ok (.iadd, 1) := by decide +kernel
theorem dX11_restAt_95 : decode cX11_restAt 95 = .ok (.ireturn, 1) := by decide +kernel
set_option maxRecDepth 100000 in
set_option maxHeartbeats 4000000 in
theorem m_X11_restAt (l : Launch) (D : va_G) (ct : Nat → ClassId) (S : ty_S) (ws : va_W) (mo : Nat) (mw : Nat) (ma : Nat) (mf : Nat) (m0 : Nat) (m1 : Nat) (mu : Nat) (mv : Nat) (u0 : Nat) (u1 : Nat) (iz : Nat) (mb : Nat) (th : Int32) (mn : Int32) (mpt : Int32) (mbg : Int32) (mwr : Int32) (mwk : Int32) (mlf : Int32) (men : Int32) (f : Nat → Int32) (G : Nat → Int32) (cx : Int) (p1 : Int32) (p2 : Int32) (sz : Nat) (hT : ty_W ct S ws) (h_mu : S mu = some (.inr (1, 42))) (h_mv : S mv = some (.inr (1, 42))) (h_u0 : S u0 = some (.inr (1, 42))) (h_u1 : S u1 = some (.inr (1, 42))) (hR : rf_R G cx f) (hc : 0 ≤ p1.toInt ∧ p1.toInt < (G 9).toInt) (hq : 0 ≤ p2.toInt) : Met l yX11_restAt (ws_ yX11_restAt cX11_restAt 12 (some .int)) ({ frames := 1, cells := 0, slots := 0, locals := 22 } : Room) (va_Pc [.ref mo, .int p1, .int p2] (cmP D ct sz ([(mo, .inr (11, [.ref mw, .ref ma, .ref mf, .ref m0, .ref m1, .ref mu, .ref mv, .ref u0, .ref u1, .ref iz, .int th, .ref mb, .int mn, .int mpt, .int mbg, .int mwr, .int mwk, .int mlf, .int men])), (mw, .inl (ct 0, 958, .inl f))] ++ ws))) (va_Qi (fun (r : Int32) (u9 : va_W) => ty_W ct S u9) (cmB D ([(mo, .inr (11, [.ref mw, .ref ma, .ref mf, .ref m0, .ref m1, .ref mu, .ref mv, .ref u0, .ref u1, .ref iz, .int th, .ref mb, .int mn, .int mpt, .int mbg, .int mwr, .int mwk, .int mlf, .int men])), (mw, .inl (ct 0, 958, .inl f))] ++ ws) sz (fun (u9 : va_W) => ([(mo, .inr (11, [.ref mw, .ref ma, .ref mf, .ref m0, .ref m1, .ref mu, .ref mv, .ref u0, .ref u1, .ref iz, .int th, .ref mb, .int mn, .int mpt, .int mbg, .int mwr, .int mwk, .int mlf, .int men])), (mw, .inl (ct 0, 958, .inl f))] ++ u9))) (va_A ([(mo, .inr (11, [.ref mw, .ref ma, .ref mf, .ref m0, .ref m1, .ref mu, .ref mv, .ref u0, .ref u1, .ref iz, .int th, .ref mb, .int mn, .int mpt, .int mbg, .int mwr, .int mwk, .int mlf, .int men])), (mw, .inl (ct 0, 958, .inl f))] ++ ws) sz)) 0 0 (va_A ([(mo, .inr (11, [.ref mw, .ref ma, .ref mf, .ref m0, .ref m1, .ref mu, .ref mv, .ref u0, .ref u1, .ref iz, .int th, .ref mb, .int mn, .int mpt, .int mbg, .int mwr, .int mwk, .int mlf, .int men])), (mw, .inl (ct 0, 958, .inl f))] ++ ws) sz) := by
  refine Met.ofW (cc := cX11_restAt) (maxL := 12) (ret := (some .int)) (by decide) rfl ?_
  intro p e s m args below meth c s₁ B hml hv
  obtain ⟨rfl, hsz, hP, hK, hD0, hX⟩ := hv
  have hx := B.exec
  have hb := B.bytes
  have hr := B.returns
  have hts := ws_all (atoms_spec (ws := ws_ yX11_restAt cX11_restAt 12 (some .int)) B.pre)
  have hown : s.vm.findClass RX11 = some m.cls := findClass_of_methodNamed B.named
  have hlocks := B.notSynchronized
  subst hsz
  have hD := hD0.self (sz := s.heap.size)
  generalize hAe : va_A ([(mo, .inr (11, [.ref mw, .ref ma, .ref mf, .ref m0, .ref m1, .ref mu, .ref mv, .ref u0, .ref u1, .ref iz, .int th, .ref mb, .int mn, .int mpt, .int mbg, .int mwr, .int mwk, .int mlf, .int men])), (mw, .inl (ct 0, 958, .inl f))] ++ ws) s.heap.size = A at hD hX ⊢
  have hA : ∀ q : Nat, s.heap.size ≤ q → A q := fun q h => by rw [← hAe]; exact Or.inr h
  have hS : va_S A s.heap s.heap [] := va_S.rf
  have hl := lv_entry ([.ref mo, .int p1, .int p2]) (n := 12) (Nat.le_of_ble_eq_true rfl)
  rw [lg_entry_eq]
  generalize (lg_sl ([.ref mo, .int p1, .int p2]) ++ List.replicate (12 - (lg_sl ([.ref mo, .int p1, .int p2])).length) Slot.unset).toArray = ls at hl ⊢
  have hl : lv_has ls 12 [(0, .ref mo), (1, .int p1), (2, .int p2)] := hl
  refine lv_aload_n hx hb dX11_restAt_0 rfl (lv_at hl 0 rfl) ?_
  refine lv_iload_n hx hb dX11_restAt_1 rfl (lv_at hl 1 rfl) ?_
  refine lv_bipush (v := 11) hx hb dX11_restAt_2 (by decide) ?_
  refine ty_ki (wr := []) (wc := ([(mo, .inr (11, [.ref mw, .ref ma, .ref mf, .ref m0, .ref m1, .ref mu, .ref mv, .ref u0, .ref u1, .ref iz, .int th, .ref mb, .int mn, .int mpt, .int mbg, .int mwr, .int mwk, .int mlf, .int men])), (mw, .inl (ct 0, 958, .inl f))] ++ ws)) (va_runV (As := [.int p1, .int 11]) (rest := []) ⟨hx, hb, hml, hown, hts⟩ (m_of_11 l D ct S ws mo mw ma mf m0 m1 mu mv u0 u1 iz mb th mn mpt mbg mwr mwk mlf men f G cx p1 _ hT h_mu h_mv h_u0 h_u1 hR hc) (cm_V 2 hts kc_X11_of ki_RX11 kl_RX11_209 kv_X11_of kx_X11_of kd_X11_of ⟨Nat.le_of_ble_eq_true rfl, Nat.le_of_ble_eq_true rfl⟩) (ty_preE (wr := []) (wc := ([(mo, .inr (11, [.ref mw, .ref ma, .ref mf, .ref m0, .ref m1, .ref mu, .ref mv, .ref u0, .ref u1, .ref iz, .int th, .ref mb, .int mn, .int mpt, .int mbg, .int mwr, .int mwk, .int mlf, .int men])), (mw, .inl (ct 0, 958, .inl f))] ++ ws)) (ci := 11) (q0 := 0) hP hK hD hS hA hX rfl rfl) rfl rfl hl.1 rfl (lv_room (Nat.le_of_ble_eq_true rfl)) dX11_restAt_4 ⟨Nat.le_of_ble_eq_true rfl, Nat.le_of_ble_eq_true rfl⟩) hP hD hS hA (fun r_1 u H locs hw_2 hP hD hS => ?_)
  obtain ⟨ws_3, rfl⟩ : ∃ z, z = u := ⟨_, rfl⟩
  obtain ⟨hT, rfl⟩ := hw_2
  have hP : va_P D vwCl ([(mo, .inr (11, [.ref mw, .ref ma, .ref mf, .ref m0, .ref m1, .ref mu, .ref mv, .ref u0, .ref u1, .ref iz, .int th, .ref mb, .int mn, .int mpt, .int mbg, .int mwr, .int mwk, .int mlf, .int men])), (mw, .inl (ct 0, 958, .inl f))] ++ ws_3) H := hP
  have hD : va_D A ([(mo, .inr (11, [.ref mw, .ref ma, .ref mf, .ref m0, .ref m1, .ref mu, .ref mv, .ref u0, .ref u1, .ref iz, .int th, .ref mb, .int mn, .int mpt, .int mbg, .int mwr, .int mwk, .int mlf, .int men])), (mw, .inl (ct 0, 958, .inl f))] ++ ws_3) := hD
  refine lv_istore_n (lv' := [(3, .int (rf_of f p1 11)), (0, .ref mo), (1, .int p1), (2, .int p2)]) hx hb dX11_restAt_7 rfl hl (by decide) rfl (fun ls hl => ?_)
  refine lv_aload_n hx hb dX11_restAt_8 rfl (lv_at hl 1 rfl) ?_
  refine lv_iload_n hx hb dX11_restAt_9 rfl (lv_at hl 0 rfl) ?_
  refine ty_ki (wr := []) (wc := ([(mo, .inr (11, [.ref mw, .ref ma, .ref mf, .ref m0, .ref m1, .ref mu, .ref mv, .ref u0, .ref u1, .ref iz, .int th, .ref mb, .int mn, .int mpt, .int mbg, .int mwr, .int mwk, .int mlf, .int men])), (mw, .inl (ct 0, 958, .inl f))] ++ ws_3)) (va_runV (As := [.int (rf_of f p1 11)]) (rest := []) ⟨hx, hb, hml, hown, hts⟩ (m_X11_voltsMany l D ct S ws_3 mo mw ma mf m0 m1 mu mv u0 u1 iz mb th mn mpt mbg mwr mwk mlf men f G cx (rf_of f p1 11) _ hT h_mu h_mv h_u0 h_u1 hR (rf_stat hR hc).1.1) (cm_V 1 hts kc_X11_voltsMany ki_RX11 kl_RX11_212 kv_X11_voltsMany kx_X11_voltsMany kd_X11_voltsMany ⟨Nat.le_of_ble_eq_true rfl, Nat.le_of_ble_eq_true rfl⟩) (ty_preE (wr := []) (wc := ([(mo, .inr (11, [.ref mw, .ref ma, .ref mf, .ref m0, .ref m1, .ref mu, .ref mv, .ref u0, .ref u1, .ref iz, .int th, .ref mb, .int mn, .int mpt, .int mbg, .int mwr, .int mwk, .int mlf, .int men])), (mw, .inl (ct 0, 958, .inl f))] ++ ws_3)) (ci := 11) (q0 := 0) hP hK hD hS hA hX rfl rfl) rfl rfl hl.1 rfl (lv_room (Nat.le_of_ble_eq_true rfl)) dX11_restAt_10 ⟨Nat.le_of_ble_eq_true rfl, Nat.le_of_ble_eq_true rfl⟩) hP hD hS hA (fun r_4 u H locs hw_5 hP hD hS => ?_)
  obtain ⟨ws_6, rfl⟩ : ∃ z, z = u := ⟨_, rfl⟩
  obtain ⟨hT, rfl⟩ := hw_5
  have hP : va_P D vwCl ([(mo, .inr (11, [.ref mw, .ref ma, .ref mf, .ref m0, .ref m1, .ref mu, .ref mv, .ref u0, .ref u1, .ref iz, .int th, .ref mb, .int mn, .int mpt, .int mbg, .int mwr, .int mwk, .int mlf, .int men])), (mw, .inl (ct 0, 958, .inl f))] ++ ws_6) H := hP
  have hD : va_D A ([(mo, .inr (11, [.ref mw, .ref ma, .ref mf, .ref m0, .ref m1, .ref mu, .ref mv, .ref u0, .ref u1, .ref iz, .int th, .ref mb, .int mn, .int mpt, .int mbg, .int mwr, .int mwk, .int mlf, .int men])), (mw, .inl (ct 0, 958, .inl f))] ++ ws_6) := hD
  refine lv_iconst (v := 1) hx hb dX11_restAt_13 (by decide) ?_
  refine lv_isub hx hb dX11_restAt_14 ?_
  refine lv_istore (lv' := [(4, .int ((f (20 + 19 * (rf_of f p1 11).toInt.toNat + 7)) - 1)), (3, .int (rf_of f p1 11)), (0, .ref mo), (1, .int p1), (2, .int p2)]) hx hb dX11_restAt_15 hl (by decide) rfl (fun ls hl => ?_)
  refine lv_aload_n hx hb dX11_restAt_17 rfl (lv_at hl 2 rfl) ?_
  refine lv_iload_n hx hb dX11_restAt_18 rfl (lv_at hl 3 rfl) ?_
  refine lv_bipush (v := 7) hx hb dX11_restAt_19 (by decide) ?_
  refine ty_ki (wr := []) (wc := ([(mo, .inr (11, [.ref mw, .ref ma, .ref mf, .ref m0, .ref m1, .ref mu, .ref mv, .ref u0, .ref u1, .ref iz, .int th, .ref mb, .int mn, .int mpt, .int mbg, .int mwr, .int mwk, .int mlf, .int men])), (mw, .inl (ct 0, 958, .inl f))] ++ ws_6)) (va_runV (As := [.int p1, .int 7]) (rest := []) ⟨hx, hb, hml, hown, hts⟩ (m_of_7 l D ct S ws_6 mo mw ma mf m0 m1 mu mv u0 u1 iz mb th mn mpt mbg mwr mwk mlf men f G cx p1 _ hT h_mu h_mv h_u0 h_u1 hR hc) (cm_V 2 hts kc_X11_of ki_RX11 kl_RX11_209 kv_X11_of kx_X11_of kd_X11_of ⟨Nat.le_of_ble_eq_true rfl, Nat.le_of_ble_eq_true rfl⟩) (ty_preE (wr := []) (wc := ([(mo, .inr (11, [.ref mw, .ref ma, .ref mf, .ref m0, .ref m1, .ref mu, .ref mv, .ref u0, .ref u1, .ref iz, .int th, .ref mb, .int mn, .int mpt, .int mbg, .int mwr, .int mwk, .int mlf, .int men])), (mw, .inl (ct 0, 958, .inl f))] ++ ws_6)) (ci := 11) (q0 := 0) hP hK hD hS hA hX rfl rfl) rfl rfl hl.1 rfl (lv_room (Nat.le_of_ble_eq_true rfl)) dX11_restAt_21 ⟨Nat.le_of_ble_eq_true rfl, Nat.le_of_ble_eq_true rfl⟩) hP hD hS hA (fun r_7 u H locs hw_8 hP hD hS => ?_)
  obtain ⟨ws_9, rfl⟩ : ∃ z, z = u := ⟨_, rfl⟩
  obtain ⟨hT, rfl⟩ := hw_8
  have hP : va_P D vwCl ([(mo, .inr (11, [.ref mw, .ref ma, .ref mf, .ref m0, .ref m1, .ref mu, .ref mv, .ref u0, .ref u1, .ref iz, .int th, .ref mb, .int mn, .int mpt, .int mbg, .int mwr, .int mwk, .int mlf, .int men])), (mw, .inl (ct 0, 958, .inl f))] ++ ws_9) H := hP
  have hD : va_D A ([(mo, .inr (11, [.ref mw, .ref ma, .ref mf, .ref m0, .ref m1, .ref mu, .ref mv, .ref u0, .ref u1, .ref iz, .int th, .ref mb, .int mn, .int mpt, .int mbg, .int mwr, .int mwk, .int mlf, .int men])), (mw, .inl (ct 0, 958, .inl f))] ++ ws_9) := hD
  refine lv_i2l hx hb dX11_restAt_24 rfl ?_
  refine lv_lstore (lv' := [(5, .long ((rf_of f p1 7).toInt64)), (4, .int ((f (20 + 19 * (rf_of f p1 11).toInt.toNat + 7)) - 1)), (3, .int (rf_of f p1 11)), (0, .ref mo), (1, .int p1), (2, .int p2)]) hx hb dX11_restAt_25 hl (by decide) rfl (fun ls hl => ?_)
  refine lv_iload_n hx hb dX11_restAt_27 rfl (lv_at hl 5 rfl) ?_
  refine lv_i2l hx hb dX11_restAt_28 rfl ?_
  refine lv_iload hx hb dX11_restAt_29 (lv_at hl 1 rfl) ?_
  refine lv_i2l hx hb dX11_restAt_31 rfl ?_
  refine lv_lmul hx hb dX11_restAt_32 ?_
  refine lv_lstore (lv' := [(7, .long (p2.toInt64 * (((f (20 + 19 * (rf_of f p1 11).toInt.toNat + 7)) - 1).toInt64))), (5, .long ((rf_of f p1 7).toInt64)), (4, .int ((f (20 + 19 * (rf_of f p1 11).toInt.toNat + 7)) - 1)), (3, .int (rf_of f p1 11)), (0, .ref mo), (1, .int p1), (2, .int p2)]) hx hb dX11_restAt_33 hl (by decide) rfl (fun ls hl => ?_)
  refine lv_lload hx hb dX11_restAt_35 (lv_at hl 0 rfl) ?_
  refine lv_lload hx hb dX11_restAt_37 (lv_at hl 1 rfl) ?_
  refine lv_ldiv hx hb dX11_restAt_39 (rf_nzl (by have := rf_full hR hc; omega)) ?_
  refine lv_iload hx hb dX11_restAt_40 (lv_at hl 2 rfl) ?_
  refine lv_iconst (v := 1) hx hb dX11_restAt_42 (by decide) ?_
  refine lv_isub hx hb dX11_restAt_43 ?_
  refine lv_i2l hx hb dX11_restAt_44 rfl ?_
  refine va_mmin_long hx hb (hml.trans hl.1.symm) hown (hts _ kl_RX11_119) (hts _ jm_min_long_s) (hts _ ki_RJ9) (hts _ jm_min_long_c) (Nat.le_of_ble_eq_true rfl) (Nat.le_of_ble_eq_true rfl) (Nat.le_of_ble_eq_true rfl) (Nat.le_of_ble_eq_true rfl) dX11_restAt_45 ?_
  refine lv_l2i hx hb dX11_restAt_48 rfl ?_
  refine lv_topi (fun k_9 hk_9 => ?_)
  have hk_8 := rf_rk hq (rf_stat hR hc).1.2 (rf_full hR hc) hk_9
  refine lv_istore (lv' := [(9, .int k_9), (7, .long (p2.toInt64 * (((f (20 + 19 * (rf_of f p1 11).toInt.toNat + 7)) - 1).toInt64))), (5, .long ((rf_of f p1 7).toInt64)), (4, .int ((f (20 + 19 * (rf_of f p1 11).toInt.toNat + 7)) - 1)), (3, .int (rf_of f p1 11)), (0, .ref mo), (1, .int p1), (2, .int p2)]) hx hb dX11_restAt_49 hl (by decide) rfl (fun ls hl => ?_)
  refine lv_aload_n hx hb dX11_restAt_51 rfl (lv_at hl 5 rfl) ?_
  refine lv_iload_n hx hb dX11_restAt_52 rfl (lv_at hl 4 rfl) ?_
  refine lv_iload hx hb dX11_restAt_53 (lv_at hl 0 rfl) ?_
  refine lv_iconst (v := 1) hx hb dX11_restAt_55 (by decide) ?_
  refine lv_iadd hx hb dX11_restAt_56 ?_
  refine ty_ki (wr := []) (wc := ([(mo, .inr (11, [.ref mw, .ref ma, .ref mf, .ref m0, .ref m1, .ref mu, .ref mv, .ref u0, .ref u1, .ref iz, .int th, .ref mb, .int mn, .int mpt, .int mbg, .int mwr, .int mwk, .int mlf, .int men])), (mw, .inl (ct 0, 958, .inl f))] ++ ws_9)) (va_runV (As := [.int (rf_of f p1 11), .int (k_9 + 1)]) (rest := []) ⟨hx, hb, hml, hown, hts⟩ (m_X11_volts l D ct S ws_9 mo mw ma mf m0 m1 mu mv u0 u1 iz mb th mn mpt mbg mwr mwk mlf men f G cx (rf_of f p1 11) (k_9 + 1) _ hT h_mu h_mv h_u0 h_u1 hR (rf_stat hR hc).1.1 (rf_rk1 hk_8)) (cm_V 2 hts kc_X11_volts ki_RX11 kl_RX11_215 kv_X11_volts kx_X11_volts kd_X11_volts ⟨Nat.le_of_ble_eq_true rfl, Nat.le_of_ble_eq_true rfl⟩) (ty_preE (wr := []) (wc := ([(mo, .inr (11, [.ref mw, .ref ma, .ref mf, .ref m0, .ref m1, .ref mu, .ref mv, .ref u0, .ref u1, .ref iz, .int th, .ref mb, .int mn, .int mpt, .int mbg, .int mwr, .int mwk, .int mlf, .int men])), (mw, .inl (ct 0, 958, .inl f))] ++ ws_9)) (ci := 11) (q0 := 0) hP hK hD hS hA hX rfl rfl) rfl rfl hl.1 rfl (lv_room (Nat.le_of_ble_eq_true rfl)) dX11_restAt_57 ⟨Nat.le_of_ble_eq_true rfl, Nat.le_of_ble_eq_true rfl⟩) hP hD hS hA (fun r_10 u H locs hw_11 hP hD hS => ?_)
  obtain ⟨ws_12, rfl⟩ : ∃ z, z = u := ⟨_, rfl⟩
  have hT := hw_11
  have hP : va_P D vwCl ([(mo, .inr (11, [.ref mw, .ref ma, .ref mf, .ref m0, .ref m1, .ref mu, .ref mv, .ref u0, .ref u1, .ref iz, .int th, .ref mb, .int mn, .int mpt, .int mbg, .int mwr, .int mwk, .int mlf, .int men])), (mw, .inl (ct 0, 958, .inl f))] ++ ws_12) H := hP
  have hD : va_D A ([(mo, .inr (11, [.ref mw, .ref ma, .ref mf, .ref m0, .ref m1, .ref mu, .ref mv, .ref u0, .ref u1, .ref iz, .int th, .ref mb, .int mn, .int mpt, .int mbg, .int mwr, .int mwk, .int mlf, .int men])), (mw, .inl (ct 0, 958, .inl f))] ++ ws_12) := hD
  refine lv_aload_n hx hb dX11_restAt_60 rfl (lv_at hl 5 rfl) ?_
  refine lv_iload_n hx hb dX11_restAt_61 rfl (lv_at hl 4 rfl) ?_
  refine lv_iload hx hb dX11_restAt_62 (lv_at hl 0 rfl) ?_
  refine ty_ki (wr := []) (wc := ([(mo, .inr (11, [.ref mw, .ref ma, .ref mf, .ref m0, .ref m1, .ref mu, .ref mv, .ref u0, .ref u1, .ref iz, .int th, .ref mb, .int mn, .int mpt, .int mbg, .int mwr, .int mwk, .int mlf, .int men])), (mw, .inl (ct 0, 958, .inl f))] ++ ws_12)) (va_runV (As := [.int (rf_of f p1 11), .int k_9]) (rest := [.int r_10]) ⟨hx, hb, hml, hown, hts⟩ (m_X11_volts l D ct S ws_12 mo mw ma mf m0 m1 mu mv u0 u1 iz mb th mn mpt mbg mwr mwk mlf men f G cx (rf_of f p1 11) k_9 _ hT h_mu h_mv h_u0 h_u1 hR (rf_stat hR hc).1.1 (rf_rk0 hk_8)) (cm_V 2 hts kc_X11_volts ki_RX11 kl_RX11_215 kv_X11_volts kx_X11_volts kd_X11_volts ⟨Nat.le_of_ble_eq_true rfl, Nat.le_of_ble_eq_true rfl⟩) (ty_preE (wr := []) (wc := ([(mo, .inr (11, [.ref mw, .ref ma, .ref mf, .ref m0, .ref m1, .ref mu, .ref mv, .ref u0, .ref u1, .ref iz, .int th, .ref mb, .int mn, .int mpt, .int mbg, .int mwr, .int mwk, .int mlf, .int men])), (mw, .inl (ct 0, 958, .inl f))] ++ ws_12)) (ci := 11) (q0 := 0) hP hK hD hS hA hX rfl rfl) rfl rfl hl.1 rfl (lv_room (Nat.le_of_ble_eq_true rfl)) dX11_restAt_64 ⟨Nat.le_of_ble_eq_true rfl, Nat.le_of_ble_eq_true rfl⟩) hP hD hS hA (fun r_13 u H locs hw_14 hP hD hS => ?_)
  obtain ⟨ws_15, rfl⟩ : ∃ z, z = u := ⟨_, rfl⟩
  have hT := hw_14
  have hP : va_P D vwCl ([(mo, .inr (11, [.ref mw, .ref ma, .ref mf, .ref m0, .ref m1, .ref mu, .ref mv, .ref u0, .ref u1, .ref iz, .int th, .ref mb, .int mn, .int mpt, .int mbg, .int mwr, .int mwk, .int mlf, .int men])), (mw, .inl (ct 0, 958, .inl f))] ++ ws_15) H := hP
  have hD : va_D A ([(mo, .inr (11, [.ref mw, .ref ma, .ref mf, .ref m0, .ref m1, .ref mu, .ref mv, .ref u0, .ref u1, .ref iz, .int th, .ref mb, .int mn, .int mpt, .int mbg, .int mwr, .int mwk, .int mlf, .int men])), (mw, .inl (ct 0, 958, .inl f))] ++ ws_15) := hD
  refine lv_isub hx hb dX11_restAt_67 ?_
  refine lv_topi (fun x_16 _ => ?_)
  refine lv_i2l hx hb dX11_restAt_68 rfl ?_
  refine lv_topl (fun x_17 _ => ?_)
  refine lv_lstore (lv' := [(10, .long x_17), (9, .int k_9), (7, .long (p2.toInt64 * (((f (20 + 19 * (rf_of f p1 11).toInt.toNat + 7)) - 1).toInt64))), (5, .long ((rf_of f p1 7).toInt64)), (4, .int ((f (20 + 19 * (rf_of f p1 11).toInt.toNat + 7)) - 1)), (3, .int (rf_of f p1 11)), (0, .ref mo), (1, .int p1), (2, .int p2)]) hx hb dX11_restAt_69 hl (by decide) rfl (fun ls hl => ?_)
  refine lv_aload_n hx hb dX11_restAt_71 rfl (lv_at hl 6 rfl) ?_
  refine lv_iload_n hx hb dX11_restAt_72 rfl (lv_at hl 5 rfl) ?_
  refine lv_iload hx hb dX11_restAt_73 (lv_at hl 1 rfl) ?_
  refine ty_ki (wr := []) (wc := ([(mo, .inr (11, [.ref mw, .ref ma, .ref mf, .ref m0, .ref m1, .ref mu, .ref mv, .ref u0, .ref u1, .ref iz, .int th, .ref mb, .int mn, .int mpt, .int mbg, .int mwr, .int mwk, .int mlf, .int men])), (mw, .inl (ct 0, 958, .inl f))] ++ ws_15)) (va_runV (As := [.int (rf_of f p1 11), .int k_9]) (rest := []) ⟨hx, hb, hml, hown, hts⟩ (m_X11_volts l D ct S ws_15 mo mw ma mf m0 m1 mu mv u0 u1 iz mb th mn mpt mbg mwr mwk mlf men f G cx (rf_of f p1 11) k_9 _ hT h_mu h_mv h_u0 h_u1 hR (rf_stat hR hc).1.1 (rf_rk0 hk_8)) (cm_V 2 hts kc_X11_volts ki_RX11 kl_RX11_215 kv_X11_volts kx_X11_volts kd_X11_volts ⟨Nat.le_of_ble_eq_true rfl, Nat.le_of_ble_eq_true rfl⟩) (ty_preE (wr := []) (wc := ([(mo, .inr (11, [.ref mw, .ref ma, .ref mf, .ref m0, .ref m1, .ref mu, .ref mv, .ref u0, .ref u1, .ref iz, .int th, .ref mb, .int mn, .int mpt, .int mbg, .int mwr, .int mwk, .int mlf, .int men])), (mw, .inl (ct 0, 958, .inl f))] ++ ws_15)) (ci := 11) (q0 := 0) hP hK hD hS hA hX rfl rfl) rfl rfl hl.1 rfl (lv_room (Nat.le_of_ble_eq_true rfl)) dX11_restAt_75 ⟨Nat.le_of_ble_eq_true rfl, Nat.le_of_ble_eq_true rfl⟩) hP hD hS hA (fun r_18 u H locs hw_19 hP hD hS => ?_)
  obtain ⟨ws_20, rfl⟩ : ∃ z, z = u := ⟨_, rfl⟩
  have hT := hw_19
  have hP : va_P D vwCl ([(mo, .inr (11, [.ref mw, .ref ma, .ref mf, .ref m0, .ref m1, .ref mu, .ref mv, .ref u0, .ref u1, .ref iz, .int th, .ref mb, .int mn, .int mpt, .int mbg, .int mwr, .int mwk, .int mlf, .int men])), (mw, .inl (ct 0, 958, .inl f))] ++ ws_20) H := hP
  have hD : va_D A ([(mo, .inr (11, [.ref mw, .ref ma, .ref mf, .ref m0, .ref m1, .ref mu, .ref mv, .ref u0, .ref u1, .ref iz, .int th, .ref mb, .int mn, .int mpt, .int mbg, .int mwr, .int mwk, .int mlf, .int men])), (mw, .inl (ct 0, 958, .inl f))] ++ ws_20) := hD
  refine lv_lload hx hb dX11_restAt_78 (lv_at hl 0 rfl) ?_
  refine lv_lload hx hb dX11_restAt_80 (lv_at hl 2 rfl) ?_
  refine lv_iload hx hb dX11_restAt_82 (lv_at hl 1 rfl) ?_
  refine lv_i2l hx hb dX11_restAt_84 rfl ?_
  refine lv_topl (fun x_21 _ => ?_)
  refine lv_lload hx hb dX11_restAt_85 (lv_at hl 3 rfl) ?_
  refine lv_lmul hx hb dX11_restAt_87 ?_
  refine lv_topl (fun x_22 _ => ?_)
  refine lv_lsub hx hb dX11_restAt_88 ?_
  refine lv_topl (fun x_23 _ => ?_)
  refine lv_lmul hx hb dX11_restAt_89 ?_
  refine lv_topl (fun x_24 _ => ?_)
  refine lv_lload hx hb dX11_restAt_90 (lv_at hl 3 rfl) ?_
  refine lv_ldiv hx hb dX11_restAt_92 (rf_nzl (by have := rf_full hR hc; omega)) ?_
  refine lv_topl (fun x_25 _ => ?_)
  refine lv_l2i hx hb dX11_restAt_93 rfl ?_
  refine lv_iadd hx hb dX11_restAt_94 ?_
  refine lv_topi (fun x_26 _ => ?_)
  exact W.iret (v := x_26) hx hb hr (fun t ht hW => ⟨⟨x_26, ws_20, rfl, hT, by rw [ht]; exact hP, by rw [hAe]; exact hD⟩, hS.F ht⟩) hS.2.2 dX11_restAt_95
theorem dX11_filled_0 : decode cX11_filled 0 = .ok (.ldc2_w 303, 3) := by decide +kernel
theorem dX11_filled_3 : decode cX11_filled 3 = .ok (.aload_n 0, 1) := by decide +kernel
theorem dX11_filled_4 : decode cX11_filled 4 = .ok (.iload_n 1, 1) := by decide +kernel
theorem dX11_filled_5 : decode cX11_filled 5 = .ok (.bipush 6, 2) := by decide +kernel
theorem dX11_filled_7 : decode cX11_filled 7 = .ok (.invokevirtual 209, 3) := by decide +kernel
theorem dX11_filled_10 : decode cX11_filled 10 = .ok (.i2l, 1) := by decide +kernel
theorem dX11_filled_11 : decode cX11_filled 11 = .ok (.lmul, 1) := by decide +kernel
theorem dX11_filled_12 : decode cX11_filled 12 = .ok (.aload_n 0, 1) := by decide +kernel
theorem dX11_filled_13 : decode cX11_filled 13 = .ok (.iload_n 1, 1) := by decide +kernel
theorem dX11_filled_14 : decode cX11_filled 14 = .ok (.bipush 7, 2) := by decide +kernel
theorem dX11_filled_16 : decode cX11_filled 16 = .ok (.invokevirtual 209, 3) := by decide +kernel
theorem dX11_filled_19 : decode cX11_filled 19 = .ok (.i2l, 1) := by decide +kernel
theorem dX11_filled_20 : decode cX11_filled 20 = .ok (.ldiv, 1) := by decide +kernel
theorem dX11_filled_21 : decode cX11_filled 21 = .ok (.l2i, 1) := by decide +kernel
theorem dX11_filled_22 : decode cX11_filled 22 = .ok (.ireturn, 1) := by decide +kernel
set_option maxRecDepth 100000 in
set_option maxHeartbeats 4000000 in
theorem m_X11_filled (l : Launch) (D : va_G) (ct : Nat → ClassId) (S : ty_S) (ws : va_W) (mo : Nat) (mw : Nat) (ma : Nat) (mf : Nat) (m0 : Nat) (m1 : Nat) (mu : Nat) (mv : Nat) (u0 : Nat) (u1 : Nat) (iz : Nat) (mb : Nat) (th : Int32) (mn : Int32) (mpt : Int32) (mbg : Int32) (mwr : Int32) (mwk : Int32) (mlf : Int32) (men : Int32) (f : Nat → Int32) (G : Nat → Int32) (cx : Int) (p1 : Int32) (sz : Nat) (hT : ty_W ct S ws) (h_mu : S mu = some (.inr (1, 42))) (h_mv : S mv = some (.inr (1, 42))) (h_u0 : S u0 = some (.inr (1, 42))) (h_u1 : S u1 = some (.inr (1, 42))) (hR : rf_R G cx f) (hc : 0 ≤ p1.toInt ∧ p1.toInt < (G 9).toInt) : Met l yX11_filled (ws_ yX11_filled cX11_filled 2 (some .int)) ({ frames := 1, cells := 0, slots := 0, locals := 22 } : Room) (va_Pc [.ref mo, .int p1] (cmP D ct sz ([(mo, .inr (11, [.ref mw, .ref ma, .ref mf, .ref m0, .ref m1, .ref mu, .ref mv, .ref u0, .ref u1, .ref iz, .int th, .ref mb, .int mn, .int mpt, .int mbg, .int mwr, .int mwk, .int mlf, .int men])), (mw, .inl (ct 0, 958, .inl f))] ++ ws))) (va_Qi (fun (r : Int32) (u9 : va_W) => ty_W ct S u9 ∧ 0 ≤ r.toInt) (cmB D ([(mo, .inr (11, [.ref mw, .ref ma, .ref mf, .ref m0, .ref m1, .ref mu, .ref mv, .ref u0, .ref u1, .ref iz, .int th, .ref mb, .int mn, .int mpt, .int mbg, .int mwr, .int mwk, .int mlf, .int men])), (mw, .inl (ct 0, 958, .inl f))] ++ ws) sz (fun (u9 : va_W) => ([(mo, .inr (11, [.ref mw, .ref ma, .ref mf, .ref m0, .ref m1, .ref mu, .ref mv, .ref u0, .ref u1, .ref iz, .int th, .ref mb, .int mn, .int mpt, .int mbg, .int mwr, .int mwk, .int mlf, .int men])), (mw, .inl (ct 0, 958, .inl f))] ++ u9))) (va_A ([(mo, .inr (11, [.ref mw, .ref ma, .ref mf, .ref m0, .ref m1, .ref mu, .ref mv, .ref u0, .ref u1, .ref iz, .int th, .ref mb, .int mn, .int mpt, .int mbg, .int mwr, .int mwk, .int mlf, .int men])), (mw, .inl (ct 0, 958, .inl f))] ++ ws) sz)) 0 0 (va_A ([(mo, .inr (11, [.ref mw, .ref ma, .ref mf, .ref m0, .ref m1, .ref mu, .ref mv, .ref u0, .ref u1, .ref iz, .int th, .ref mb, .int mn, .int mpt, .int mbg, .int mwr, .int mwk, .int mlf, .int men])), (mw, .inl (ct 0, 958, .inl f))] ++ ws) sz) := by
  refine Met.ofW (cc := cX11_filled) (maxL := 2) (ret := (some .int)) (by decide) rfl ?_
  intro p e s m args below meth c s₁ B hml hv
  obtain ⟨rfl, hsz, hP, hK, hD0, hX⟩ := hv
  have hx := B.exec
  have hb := B.bytes
  have hr := B.returns
  have hts := ws_all (atoms_spec (ws := ws_ yX11_filled cX11_filled 2 (some .int)) B.pre)
  have hown : s.vm.findClass RX11 = some m.cls := findClass_of_methodNamed B.named
  have hlocks := B.notSynchronized
  subst hsz
  have hD := hD0.self (sz := s.heap.size)
  generalize hAe : va_A ([(mo, .inr (11, [.ref mw, .ref ma, .ref mf, .ref m0, .ref m1, .ref mu, .ref mv, .ref u0, .ref u1, .ref iz, .int th, .ref mb, .int mn, .int mpt, .int mbg, .int mwr, .int mwk, .int mlf, .int men])), (mw, .inl (ct 0, 958, .inl f))] ++ ws) s.heap.size = A at hD hX ⊢
  have hA : ∀ q : Nat, s.heap.size ≤ q → A q := fun q h => by rw [← hAe]; exact Or.inr h
  have hS : va_S A s.heap s.heap [] := va_S.rf
  have hl := lv_entry ([.ref mo, .int p1]) (n := 2) (Nat.le_of_ble_eq_true rfl)
  rw [lg_entry_eq]
  generalize (lg_sl ([.ref mo, .int p1]) ++ List.replicate (2 - (lg_sl ([.ref mo, .int p1])).length) Slot.unset).toArray = ls at hl ⊢
  have hl : lv_has ls 2 [(0, .ref mo), (1, .int p1)] := hl
  refine lv_ldc2 hx hb hown (hts _ kl_RX11_303) dX11_filled_0 ?_
  refine lv_aload_n hx hb dX11_filled_3 rfl (lv_at hl 0 rfl) ?_
  refine lv_iload_n hx hb dX11_filled_4 rfl (lv_at hl 1 rfl) ?_
  refine lv_bipush (v := 6) hx hb dX11_filled_5 (by decide) ?_
  refine ty_ki (wr := []) (wc := ([(mo, .inr (11, [.ref mw, .ref ma, .ref mf, .ref m0, .ref m1, .ref mu, .ref mv, .ref u0, .ref u1, .ref iz, .int th, .ref mb, .int mn, .int mpt, .int mbg, .int mwr, .int mwk, .int mlf, .int men])), (mw, .inl (ct 0, 958, .inl f))] ++ ws)) (va_runV (As := [.int p1, .int 6]) (rest := [.long 1000]) ⟨hx, hb, hml, hown, hts⟩ (m_of_6 l D ct S ws mo mw ma mf m0 m1 mu mv u0 u1 iz mb th mn mpt mbg mwr mwk mlf men f G cx p1 _ hT h_mu h_mv h_u0 h_u1 hR hc) (cm_V 2 hts kc_X11_of ki_RX11 kl_RX11_209 kv_X11_of kx_X11_of kd_X11_of ⟨Nat.le_of_ble_eq_true rfl, Nat.le_of_ble_eq_true rfl⟩) (ty_preE (wr := []) (wc := ([(mo, .inr (11, [.ref mw, .ref ma, .ref mf, .ref m0, .ref m1, .ref mu, .ref mv, .ref u0, .ref u1, .ref iz, .int th, .ref mb, .int mn, .int mpt, .int mbg, .int mwr, .int mwk, .int mlf, .int men])), (mw, .inl (ct 0, 958, .inl f))] ++ ws)) (ci := 11) (q0 := 0) hP hK hD hS hA hX rfl rfl) rfl rfl hl.1 rfl (lv_room (Nat.le_of_ble_eq_true rfl)) dX11_filled_7 ⟨Nat.le_of_ble_eq_true rfl, Nat.le_of_ble_eq_true rfl⟩) hP hD hS hA (fun r_1 u H locs hw_2 hP hD hS => ?_)
  obtain ⟨ws_3, rfl⟩ : ∃ z, z = u := ⟨_, rfl⟩
  obtain ⟨hT, rfl⟩ := hw_2
  have hP : va_P D vwCl ([(mo, .inr (11, [.ref mw, .ref ma, .ref mf, .ref m0, .ref m1, .ref mu, .ref mv, .ref u0, .ref u1, .ref iz, .int th, .ref mb, .int mn, .int mpt, .int mbg, .int mwr, .int mwk, .int mlf, .int men])), (mw, .inl (ct 0, 958, .inl f))] ++ ws_3) H := hP
  have hD : va_D A ([(mo, .inr (11, [.ref mw, .ref ma, .ref mf, .ref m0, .ref m1, .ref mu, .ref mv, .ref u0, .ref u1, .ref iz, .int th, .ref mb, .int mn, .int mpt, .int mbg, .int mwr, .int mwk, .int mlf, .int men])), (mw, .inl (ct 0, 958, .inl f))] ++ ws_3) := hD
  refine lv_i2l hx hb dX11_filled_10 rfl ?_
  refine lv_lmul hx hb dX11_filled_11 ?_
  refine lv_aload_n hx hb dX11_filled_12 rfl (lv_at hl 0 rfl) ?_
  refine lv_iload_n hx hb dX11_filled_13 rfl (lv_at hl 1 rfl) ?_
  refine lv_bipush (v := 7) hx hb dX11_filled_14 (by decide) ?_
  refine ty_ki (wr := []) (wc := ([(mo, .inr (11, [.ref mw, .ref ma, .ref mf, .ref m0, .ref m1, .ref mu, .ref mv, .ref u0, .ref u1, .ref iz, .int th, .ref mb, .int mn, .int mpt, .int mbg, .int mwr, .int mwk, .int mlf, .int men])), (mw, .inl (ct 0, 958, .inl f))] ++ ws_3)) (va_runV (As := [.int p1, .int 7]) (rest := [.long (1000 * ((rf_of f p1 6).toInt64))]) ⟨hx, hb, hml, hown, hts⟩ (m_of_7 l D ct S ws_3 mo mw ma mf m0 m1 mu mv u0 u1 iz mb th mn mpt mbg mwr mwk mlf men f G cx p1 _ hT h_mu h_mv h_u0 h_u1 hR hc) (cm_V 2 hts kc_X11_of ki_RX11 kl_RX11_209 kv_X11_of kx_X11_of kd_X11_of ⟨Nat.le_of_ble_eq_true rfl, Nat.le_of_ble_eq_true rfl⟩) (ty_preE (wr := []) (wc := ([(mo, .inr (11, [.ref mw, .ref ma, .ref mf, .ref m0, .ref m1, .ref mu, .ref mv, .ref u0, .ref u1, .ref iz, .int th, .ref mb, .int mn, .int mpt, .int mbg, .int mwr, .int mwk, .int mlf, .int men])), (mw, .inl (ct 0, 958, .inl f))] ++ ws_3)) (ci := 11) (q0 := 0) hP hK hD hS hA hX rfl rfl) rfl rfl hl.1 rfl (lv_room (Nat.le_of_ble_eq_true rfl)) dX11_filled_16 ⟨Nat.le_of_ble_eq_true rfl, Nat.le_of_ble_eq_true rfl⟩) hP hD hS hA (fun r_4 u H locs hw_5 hP hD hS => ?_)
  obtain ⟨ws_6, rfl⟩ : ∃ z, z = u := ⟨_, rfl⟩
  obtain ⟨hT, rfl⟩ := hw_5
  have hP : va_P D vwCl ([(mo, .inr (11, [.ref mw, .ref ma, .ref mf, .ref m0, .ref m1, .ref mu, .ref mv, .ref u0, .ref u1, .ref iz, .int th, .ref mb, .int mn, .int mpt, .int mbg, .int mwr, .int mwk, .int mlf, .int men])), (mw, .inl (ct 0, 958, .inl f))] ++ ws_6) H := hP
  have hD : va_D A ([(mo, .inr (11, [.ref mw, .ref ma, .ref mf, .ref m0, .ref m1, .ref mu, .ref mv, .ref u0, .ref u1, .ref iz, .int th, .ref mb, .int mn, .int mpt, .int mbg, .int mwr, .int mwk, .int mlf, .int men])), (mw, .inl (ct 0, 958, .inl f))] ++ ws_6) := hD
  refine lv_i2l hx hb dX11_filled_19 rfl ?_
  refine lv_ldiv hx hb dX11_filled_20 (rf_nzl (by have := rf_full hR hc; omega)) ?_
  refine lv_l2i hx hb dX11_filled_21 rfl ?_
  exact W.iret (v := ((1000 * ((rf_of f p1 6).toInt64)) / ((rf_of f p1 7).toInt64)).toInt32) hx hb hr (fun t ht hW => ⟨⟨((1000 * ((rf_of f p1 6).toInt64)) / ((rf_of f p1 7).toInt64)).toInt32, ws_6, rfl, ⟨hT, (rf_fl (by have := rf_qp hR hc; omega) (rf_full hR hc))⟩, by rw [ht]; exact hP, by rw [hAe]; exact hD⟩, hS.F ht⟩) hS.2.2 dX11_filled_22
theorem dX11_share_0 : decode cX11_share 0 = .ok (.ldc2_w 303, 3) := by decide +kernel
theorem dX11_share_3 : decode cX11_share 3 = .ok (.aload_n 0, 1) := by decide +kernel
theorem dX11_share_4 : decode cX11_share 4 = .ok (.iload_n 1, 1) := by decide +kernel
theorem dX11_share_5 : decode cX11_share 5 = .ok (.bipush 7, 2) := by decide +kernel
theorem dX11_share_7 : decode cX11_share 7 = .ok (.invokevirtual 209, 3) := by decide +kernel
theorem dX11_share_10 : decode cX11_share 10 = .ok (.i2l, 1) := by decide +kernel
theorem dX11_share_11 : decode cX11_share 11 = .ok (.lmul, 1) := by decide +kernel
theorem dX11_share_12 : decode cX11_share 12 = .ok (.aload_n 0, 1) := by decide +kernel
theorem dX11_share_13 : decode cX11_share 13 = .ok (.iload_n 1, 1) := by decide +kernel
theorem dX11_share_14 : decode cX11_share 14 = .ok (.bipush 12, 2) := by decide +kernel
theorem dX11_share_16 : decode cX11_share 16 = .ok (.invokevirtual 209, 3) := by decide +kernel
theorem dX11_share_19 : decode cX11_share 19 = .ok (.i2l, 1) := by decide +kernel
theorem dX11_share_20 : decode cX11_share 20 = .ok (.ldiv, 1) := by decide +kernel
theorem dX11_share_21 : decode cX11_share 21 = .ok (.l2i, 1) := by decide +kernel
theorem dX11_share_22 : decode cX11_share 22 = .ok (.ireturn, 1) := by decide +kernel
set_option maxRecDepth 100000 in
set_option maxHeartbeats 4000000 in
theorem m_X11_share (l : Launch) (D : va_G) (ct : Nat → ClassId) (S : ty_S) (ws : va_W) (mo : Nat) (mw : Nat) (ma : Nat) (mf : Nat) (m0 : Nat) (m1 : Nat) (mu : Nat) (mv : Nat) (u0 : Nat) (u1 : Nat) (iz : Nat) (mb : Nat) (th : Int32) (mn : Int32) (mpt : Int32) (mbg : Int32) (mwr : Int32) (mwk : Int32) (mlf : Int32) (men : Int32) (f : Nat → Int32) (G : Nat → Int32) (cx : Int) (p1 : Int32) (sz : Nat) (hT : ty_W ct S ws) (h_mu : S mu = some (.inr (1, 42))) (h_mv : S mv = some (.inr (1, 42))) (h_u0 : S u0 = some (.inr (1, 42))) (h_u1 : S u1 = some (.inr (1, 42))) (hR : rf_R G cx f) (hc : 0 ≤ p1.toInt ∧ p1.toInt < (G 9).toInt) : Met l yX11_share (ws_ yX11_share cX11_share 2 (some .int)) ({ frames := 1, cells := 0, slots := 0, locals := 22 } : Room) (va_Pc [.ref mo, .int p1] (cmP D ct sz ([(mo, .inr (11, [.ref mw, .ref ma, .ref mf, .ref m0, .ref m1, .ref mu, .ref mv, .ref u0, .ref u1, .ref iz, .int th, .ref mb, .int mn, .int mpt, .int mbg, .int mwr, .int mwk, .int mlf, .int men])), (mw, .inl (ct 0, 958, .inl f))] ++ ws))) (va_Qi (fun (r : Int32) (u9 : va_W) => ty_W ct S u9) (cmB D ([(mo, .inr (11, [.ref mw, .ref ma, .ref mf, .ref m0, .ref m1, .ref mu, .ref mv, .ref u0, .ref u1, .ref iz, .int th, .ref mb, .int mn, .int mpt, .int mbg, .int mwr, .int mwk, .int mlf, .int men])), (mw, .inl (ct 0, 958, .inl f))] ++ ws) sz (fun (u9 : va_W) => ([(mo, .inr (11, [.ref mw, .ref ma, .ref mf, .ref m0, .ref m1, .ref mu, .ref mv, .ref u0, .ref u1, .ref iz, .int th, .ref mb, .int mn, .int mpt, .int mbg, .int mwr, .int mwk, .int mlf, .int men])), (mw, .inl (ct 0, 958, .inl f))] ++ u9))) (va_A ([(mo, .inr (11, [.ref mw, .ref ma, .ref mf, .ref m0, .ref m1, .ref mu, .ref mv, .ref u0, .ref u1, .ref iz, .int th, .ref mb, .int mn, .int mpt, .int mbg, .int mwr, .int mwk, .int mlf, .int men])), (mw, .inl (ct 0, 958, .inl f))] ++ ws) sz)) 0 0 (va_A ([(mo, .inr (11, [.ref mw, .ref ma, .ref mf, .ref m0, .ref m1, .ref mu, .ref mv, .ref u0, .ref u1, .ref iz, .int th, .ref mb, .int mn, .int mpt, .int mbg, .int mwr, .int mwk, .int mlf, .int men])), (mw, .inl (ct 0, 958, .inl f))] ++ ws) sz) := by
  refine Met.ofW (cc := cX11_share) (maxL := 2) (ret := (some .int)) (by decide) rfl ?_
  intro p e s m args below meth c s₁ B hml hv
  obtain ⟨rfl, hsz, hP, hK, hD0, hX⟩ := hv
  have hx := B.exec
  have hb := B.bytes
  have hr := B.returns
  have hts := ws_all (atoms_spec (ws := ws_ yX11_share cX11_share 2 (some .int)) B.pre)
  have hown : s.vm.findClass RX11 = some m.cls := findClass_of_methodNamed B.named
  have hlocks := B.notSynchronized
  subst hsz
  have hD := hD0.self (sz := s.heap.size)
  generalize hAe : va_A ([(mo, .inr (11, [.ref mw, .ref ma, .ref mf, .ref m0, .ref m1, .ref mu, .ref mv, .ref u0, .ref u1, .ref iz, .int th, .ref mb, .int mn, .int mpt, .int mbg, .int mwr, .int mwk, .int mlf, .int men])), (mw, .inl (ct 0, 958, .inl f))] ++ ws) s.heap.size = A at hD hX ⊢
  have hA : ∀ q : Nat, s.heap.size ≤ q → A q := fun q h => by rw [← hAe]; exact Or.inr h
  have hS : va_S A s.heap s.heap [] := va_S.rf
  have hl := lv_entry ([.ref mo, .int p1]) (n := 2) (Nat.le_of_ble_eq_true rfl)
  rw [lg_entry_eq]
  generalize (lg_sl ([.ref mo, .int p1]) ++ List.replicate (2 - (lg_sl ([.ref mo, .int p1])).length) Slot.unset).toArray = ls at hl ⊢
  have hl : lv_has ls 2 [(0, .ref mo), (1, .int p1)] := hl
  refine lv_ldc2 hx hb hown (hts _ kl_RX11_303) dX11_share_0 ?_
  refine lv_aload_n hx hb dX11_share_3 rfl (lv_at hl 0 rfl) ?_
  refine lv_iload_n hx hb dX11_share_4 rfl (lv_at hl 1 rfl) ?_
  refine lv_bipush (v := 7) hx hb dX11_share_5 (by decide) ?_
  refine ty_ki (wr := []) (wc := ([(mo, .inr (11, [.ref mw, .ref ma, .ref mf, .ref m0, .ref m1, .ref mu, .ref mv, .ref u0, .ref u1, .ref iz, .int th, .ref mb, .int mn, .int mpt, .int mbg, .int mwr, .int mwk, .int mlf, .int men])), (mw, .inl (ct 0, 958, .inl f))] ++ ws)) (va_runV (As := [.int p1, .int 7]) (rest := [.long 1000]) ⟨hx, hb, hml, hown, hts⟩ (m_of_7 l D ct S ws mo mw ma mf m0 m1 mu mv u0 u1 iz mb th mn mpt mbg mwr mwk mlf men f G cx p1 _ hT h_mu h_mv h_u0 h_u1 hR hc) (cm_V 2 hts kc_X11_of ki_RX11 kl_RX11_209 kv_X11_of kx_X11_of kd_X11_of ⟨Nat.le_of_ble_eq_true rfl, Nat.le_of_ble_eq_true rfl⟩) (ty_preE (wr := []) (wc := ([(mo, .inr (11, [.ref mw, .ref ma, .ref mf, .ref m0, .ref m1, .ref mu, .ref mv, .ref u0, .ref u1, .ref iz, .int th, .ref mb, .int mn, .int mpt, .int mbg, .int mwr, .int mwk, .int mlf, .int men])), (mw, .inl (ct 0, 958, .inl f))] ++ ws)) (ci := 11) (q0 := 0) hP hK hD hS hA hX rfl rfl) rfl rfl hl.1 rfl (lv_room (Nat.le_of_ble_eq_true rfl)) dX11_share_7 ⟨Nat.le_of_ble_eq_true rfl, Nat.le_of_ble_eq_true rfl⟩) hP hD hS hA (fun r_1 u H locs hw_2 hP hD hS => ?_)
  obtain ⟨ws_3, rfl⟩ : ∃ z, z = u := ⟨_, rfl⟩
  obtain ⟨hT, rfl⟩ := hw_2
  have hP : va_P D vwCl ([(mo, .inr (11, [.ref mw, .ref ma, .ref mf, .ref m0, .ref m1, .ref mu, .ref mv, .ref u0, .ref u1, .ref iz, .int th, .ref mb, .int mn, .int mpt, .int mbg, .int mwr, .int mwk, .int mlf, .int men])), (mw, .inl (ct 0, 958, .inl f))] ++ ws_3) H := hP
  have hD : va_D A ([(mo, .inr (11, [.ref mw, .ref ma, .ref mf, .ref m0, .ref m1, .ref mu, .ref mv, .ref u0, .ref u1, .ref iz, .int th, .ref mb, .int mn, .int mpt, .int mbg, .int mwr, .int mwk, .int mlf, .int men])), (mw, .inl (ct 0, 958, .inl f))] ++ ws_3) := hD
  refine lv_i2l hx hb dX11_share_10 rfl ?_
  refine lv_topl (fun x_4 _ => ?_)
  refine lv_lmul hx hb dX11_share_11 ?_
  refine lv_topl (fun x_5 _ => ?_)
  refine lv_aload_n hx hb dX11_share_12 rfl (lv_at hl 0 rfl) ?_
  refine lv_iload_n hx hb dX11_share_13 rfl (lv_at hl 1 rfl) ?_
  refine lv_bipush (v := 12) hx hb dX11_share_14 (by decide) ?_
  refine ty_ki (wr := []) (wc := ([(mo, .inr (11, [.ref mw, .ref ma, .ref mf, .ref m0, .ref m1, .ref mu, .ref mv, .ref u0, .ref u1, .ref iz, .int th, .ref mb, .int mn, .int mpt, .int mbg, .int mwr, .int mwk, .int mlf, .int men])), (mw, .inl (ct 0, 958, .inl f))] ++ ws_3)) (va_runV (As := [.int p1, .int 12]) (rest := [.long x_5]) ⟨hx, hb, hml, hown, hts⟩ (m_of_12 l D ct S ws_3 mo mw ma mf m0 m1 mu mv u0 u1 iz mb th mn mpt mbg mwr mwk mlf men f G cx p1 _ hT h_mu h_mv h_u0 h_u1 hR hc) (cm_V 2 hts kc_X11_of ki_RX11 kl_RX11_209 kv_X11_of kx_X11_of kd_X11_of ⟨Nat.le_of_ble_eq_true rfl, Nat.le_of_ble_eq_true rfl⟩) (ty_preE (wr := []) (wc := ([(mo, .inr (11, [.ref mw, .ref ma, .ref mf, .ref m0, .ref m1, .ref mu, .ref mv, .ref u0, .ref u1, .ref iz, .int th, .ref mb, .int mn, .int mpt, .int mbg, .int mwr, .int mwk, .int mlf, .int men])), (mw, .inl (ct 0, 958, .inl f))] ++ ws_3)) (ci := 11) (q0 := 0) hP hK hD hS hA hX rfl rfl) rfl rfl hl.1 rfl (lv_room (Nat.le_of_ble_eq_true rfl)) dX11_share_16 ⟨Nat.le_of_ble_eq_true rfl, Nat.le_of_ble_eq_true rfl⟩) hP hD hS hA (fun r_6 u H locs hw_7 hP hD hS => ?_)
  obtain ⟨ws_8, rfl⟩ : ∃ z, z = u := ⟨_, rfl⟩
  obtain ⟨hT, rfl⟩ := hw_7
  have hP : va_P D vwCl ([(mo, .inr (11, [.ref mw, .ref ma, .ref mf, .ref m0, .ref m1, .ref mu, .ref mv, .ref u0, .ref u1, .ref iz, .int th, .ref mb, .int mn, .int mpt, .int mbg, .int mwr, .int mwk, .int mlf, .int men])), (mw, .inl (ct 0, 958, .inl f))] ++ ws_8) H := hP
  have hD : va_D A ([(mo, .inr (11, [.ref mw, .ref ma, .ref mf, .ref m0, .ref m1, .ref mu, .ref mv, .ref u0, .ref u1, .ref iz, .int th, .ref mb, .int mn, .int mpt, .int mbg, .int mwr, .int mwk, .int mlf, .int men])), (mw, .inl (ct 0, 958, .inl f))] ++ ws_8) := hD
  refine lv_i2l hx hb dX11_share_19 rfl ?_
  refine lv_ldiv hx hb dX11_share_20 (rf_nzl (by have := rf_qp hR hc; omega)) ?_
  refine lv_topl (fun x_9 _ => ?_)
  refine lv_l2i hx hb dX11_share_21 rfl ?_
  refine lv_topi (fun x_10 _ => ?_)
  exact W.iret (v := x_10) hx hb hr (fun t ht hW => ⟨⟨x_10, ws_8, rfl, hT, by rw [ht]; exact hP, by rw [hAe]; exact hD⟩, hS.F ht⟩) hS.2.2 dX11_share_22
theorem dX11_wantedOf_0 : decode cX11_wantedOf 0 = .ok (.aload_n 0, 1) := by decide +kernel
theorem dX11_wantedOf_1 : decode cX11_wantedOf 1 = .ok (.iload_n 1, 1) := by decide +kernel
theorem dX11_wantedOf_2 : decode cX11_wantedOf 2 = .ok (.iconst 0, 1) := by decide +kernel
theorem dX11_wantedOf_3 : decode cX11_wantedOf 3 = .ok (.invokevirtual 228, 3) := by decide +kernel
theorem dX11_wantedOf_6 : decode cX11_wantedOf 6 = .ok (.istore_n 2, 1) := by decide +kernel
theorem dX11_wantedOf_7 : decode cX11_wantedOf 7 = .ok (.iload_n 2, 1) := by decide +kernel
theorem dX11_wantedOf_8 : decode cX11_wantedOf 8 = .ok (.ifCond .ne 10, 3) := by decide +kernel
theorem dX11_wantedOf_11 : decode cX11_wantedOf 11 = .ok (.aload_n 0, 1) := by decide +kernel
theorem dX11_wantedOf_12 : decode cX11_wantedOf 12 = .ok (.iload_n 1, 1) := by decide +kernel
theorem dX11_wantedOf_13 : decode cX11_wantedOf 13 = .ok (.iconst 1, 1) := by decide +kernel
theorem dX11_wantedOf_14 : decode cX11_wantedOf 14 = .ok (.invokevirtual 228, 3) := by decide +kernel
theorem dX11_wantedOf_17 : decode cX11_wantedOf 17 = .ok (.ireturn, 1) := by decide +kernel
theorem dX11_wantedOf_18 : decode cX11_wantedOf 18 = .ok (.iload_n 2, 1) := by decide +kernel
theorem dX11_wantedOf_19 : decode cX11_wantedOf 19 = .ok (.iconst 3, 1) := by decide +kernel
theorem dX11_wantedOf_20 : decode cX11_wantedOf 20 = .ok (.if_icmp .ne 5, 3) := by decide +kernel
theorem dX11_wantedOf_23 : decode cX11_wantedOf 23 = .ok (.iconst 0, 1) := by decide +kernel
theorem dX11_wantedOf_24 : decode cX11_wantedOf 24 = .ok (.ireturn, 1) := by decide +kernel
theorem dX11_wantedOf_25 : decode cX11_wantedOf 25 = .ok (.iload_n 2, 1) := by decide +kernel
theorem dX11_wantedOf_26 : decode cX11_wantedOf 26 = .ok (.iconst 2, 1) := by decide +kernel
theorem dX11_wantedOf_27 : decode cX11_wantedOf 27 = .ok (.if_icmp .ne 11, 3) := by decide +kernel
theorem dX11_wantedOf_30 : decode cX11_wantedOf 30 = .ok (.aload_n 0, 1) := by decide +kernel
theorem dX11_wantedOf_31 : decode cX11_wantedOf 31 = .ok (.iload_n 1, 1) := by decide +kernel
theorem dX11_wantedOf_32 : decode cX11_wantedOf 32 = .ok (.iconst 1, 1) := by decide +kernel
theorem dX11_wantedOf_33 : decode cX11_wantedOf 33 = .ok (.invokevirtual 228, 3) := by decide +kernel
theorem dX11_wantedOf_36 : decode cX11_wantedOf 36 = .ok (.ineg, 1) := by decide +kernel
theorem dX11_wantedOf_37 : decode cX11_wantedOf 37 = .ok (.ireturn, 1) := by decide +kernel
theorem dX11_wantedOf_38 : decode cX11_wantedOf 38 = .ok (.aload_n 0, 1) := by decide +kernel
theorem dX11_wantedOf_39 : decode cX11_wantedOf 39 = .ok (.iload_n 1, 1) := by decide +kernel
theorem dX11_wantedOf_40 : decode cX11_wantedOf 40 = .ok (.iconst 1, 1) := by decide +kernel
theorem dX11_wantedOf_41 : decode cX11_wantedOf 41 = .ok (.invokevirtual 228, 3) := by decide +kernel
theorem dX11_wantedOf_44 : decode cX11_wantedOf 44 = .ok (.aload_n 0, 1) := by decide +kernel
theorem dX11_wantedOf_45 : decode cX11_wantedOf 45 = .ok (.iload_n 1, 1) := by decide +kernel
theorem dX11_wantedOf_46 : decode cX11_wantedOf 46 = .ok (.aload_n 0, 1) := by decide +kernel
theorem dX11_wantedOf_47 : decode cX11_wantedOf 47 = .ok (.iload_n 1, 1) := by decide +kernel
theorem dX11_wantedOf_48 : decode cX11_wantedOf 48 = .ok (.bipush 6, 2) := by decide +kernel
theorem dX11_wantedOf_50 : decode cX11_wantedOf 50 = .ok (.invokevirtual 209, 3) := by decide +kernel
theorem dX11_wantedOf_53 : decode cX11_wantedOf 53 = .ok (.invokevirtual 231, 3) := by decide +kernel
theorem dX11_wantedOf_56 : decode cX11_wantedOf 56 = .ok (.isub, 1) := by decide +kernel
theorem dX11_wantedOf_57 : decode cX11_wantedOf 57 = .ok (.aload_n 0, 1) := by decide +kernel
theorem dX11_wantedOf_58 : decode cX11_wantedOf 58 = .ok (.iload_n 1, 1) := by decide +kernel
theorem dX11_wantedOf_59 : decode cX11_wantedOf 59 = .ok (.bipush 8, 2) := by decide +kernel
theorem dX11_wantedOf_61 : decode cX11_wantedOf 61 = .ok (.invokevirtual 209, 3) := by decide +kernel
theorem dX11_wantedOf_64 : decode cX11_wantedOf 64 = .ok (.isub, 1) := by decide +kernel
theorem dX11_wantedOf_65 : decode cX11_wantedOf 65 = .ok (.sipush 1000, 3) := by decide +kernel
theorem dX11_wantedOf_68 : decode cX11_wantedOf 68 = .ok (.imul, 1) := by decide +kernel
theorem dX11_wantedOf_69 : decode cX11_wantedOf 69 = .ok (.aload_n 0, 1) := by decide +kernel
theorem dX11_wantedOf_70 : decode cX11_wantedOf 70 = .ok (.iload_n 1, 1) := by decide +kernel
theorem dX11_wantedOf_71 : decode cX11_wantedOf 71 = .ok (.bipush 13, 2) := by decide +kernel
theorem dX11_wantedOf_73 : decode cX11_wantedOf 73 = .ok (.invokevirtual 209, 3) := by decide +kernel
theorem dX11_wantedOf_76 : decode cX11_wantedOf 76 = .ok (.idiv, 1) := by decide +kernel
theorem dX11_wantedOf_77 : decode cX11_wantedOf 77 = .ok (.istore_n 3, 1) := by decide +kernel
theorem dX11_wantedOf_78 : decode cX11_wantedOf 78 = .ok (.iconst 0, 1) := by decide +kernel
theorem dX11_wantedOf_79 : decode cX11_wantedOf 79 = .ok (.sipush 5000, 3) := by decide +kernel
theorem dX11_wantedOf_82 : decode cX11_wantedOf 82 = .ok (.iload_n 3, 1) := by decide +kernel
theorem dX11_wantedOf_83 : decode cX11_wantedOf 83 = .ok (.invokestatic 184, 3) := by decide +kernel
theorem dX11_wantedOf_86 : decode cX11_wantedOf 86 = .ok (.invokestatic 225, 3) := by decide +kernel
theorem dX11_wantedOf_89 : decode cX11_wantedOf 89 = .ok (.ireturn, 1) := by decide +kernel
set_option maxRecDepth 100000 in
set_option maxHeartbeats 4000000 in
theorem m_X11_wantedOf (l : Launch) (D : va_G) (ct : Nat → ClassId) (S : ty_S) (ws : va_W) (mo : Nat) (mw : Nat) (ma : Nat) (mf : Nat) (m0 : Nat) (m1 : Nat) (mu : Nat) (mv : Nat) (u0 : Nat) (u1 : Nat) (iz : Nat) (mb : Nat) (th : Int32) (mn : Int32) (mpt : Int32) (mbg : Int32) (mwr : Int32) (mwk : Int32) (mlf : Int32) (men : Int32) (f : Nat → Int32) (G : Nat → Int32) (cx : Int) (p1 : Int32) (sz : Nat) (hT : ty_W ct S ws) (h_mu : S mu = some (.inr (1, 42))) (h_mv : S mv = some (.inr (1, 42))) (h_u0 : S u0 = some (.inr (1, 42))) (h_u1 : S u1 = some (.inr (1, 42))) (hR : rf_R G cx f) (hc : 0 ≤ p1.toInt ∧ p1.toInt < (G 9).toInt) (ho : rf_on G f p1) : Met l yX11_wantedOf (ws_ yX11_wantedOf cX11_wantedOf 4 (some .int)) ({ frames := 2, cells := 0, slots := 0, locals := 53 } : Room) (va_Pc [.ref mo, .int p1] (cmP D ct sz ([(mo, .inr (11, [.ref mw, .ref ma, .ref mf, .ref m0, .ref m1, .ref mu, .ref mv, .ref u0, .ref u1, .ref iz, .int th, .ref mb, .int mn, .int mpt, .int mbg, .int mwr, .int mwk, .int mlf, .int men])), (mw, .inl (ct 0, 958, .inl f))] ++ ws))) (va_Qi (fun (r : Int32) (u9 : va_W) => ty_W ct S u9 ∧ -5000 ≤ r.toInt ∧ r.toInt ≤ 5000) (cmB D ([(mo, .inr (11, [.ref mw, .ref ma, .ref mf, .ref m0, .ref m1, .ref mu, .ref mv, .ref u0, .ref u1, .ref iz, .int th, .ref mb, .int mn, .int mpt, .int mbg, .int mwr, .int mwk, .int mlf, .int men])), (mw, .inl (ct 0, 958, .inl f))] ++ ws) sz (fun (u9 : va_W) => ([(mo, .inr (11, [.ref mw, .ref ma, .ref mf, .ref m0, .ref m1, .ref mu, .ref mv, .ref u0, .ref u1, .ref iz, .int th, .ref mb, .int mn, .int mpt, .int mbg, .int mwr, .int mwk, .int mlf, .int men])), (mw, .inl (ct 0, 958, .inl f))] ++ u9))) (va_A ([(mo, .inr (11, [.ref mw, .ref ma, .ref mf, .ref m0, .ref m1, .ref mu, .ref mv, .ref u0, .ref u1, .ref iz, .int th, .ref mb, .int mn, .int mpt, .int mbg, .int mwr, .int mwk, .int mlf, .int men])), (mw, .inl (ct 0, 958, .inl f))] ++ ws) sz)) 0 0 (va_A ([(mo, .inr (11, [.ref mw, .ref ma, .ref mf, .ref m0, .ref m1, .ref mu, .ref mv, .ref u0, .ref u1, .ref iz, .int th, .ref mb, .int mn, .int mpt, .int mbg, .int mwr, .int mwk, .int mlf, .int men])), (mw, .inl (ct 0, 958, .inl f))] ++ ws) sz) := by
  refine Met.ofW (cc := cX11_wantedOf) (maxL := 4) (ret := (some .int)) (by decide) rfl ?_
  intro p e s m args below meth c s₁ B hml hv
  obtain ⟨rfl, hsz, hP, hK, hD0, hX⟩ := hv
  have hx := B.exec
  have hb := B.bytes
  have hr := B.returns
  have hts := ws_all (atoms_spec (ws := ws_ yX11_wantedOf cX11_wantedOf 4 (some .int)) B.pre)
  have hown : s.vm.findClass RX11 = some m.cls := findClass_of_methodNamed B.named
  have hlocks := B.notSynchronized
  subst hsz
  have hD := hD0.self (sz := s.heap.size)
  generalize hAe : va_A ([(mo, .inr (11, [.ref mw, .ref ma, .ref mf, .ref m0, .ref m1, .ref mu, .ref mv, .ref u0, .ref u1, .ref iz, .int th, .ref mb, .int mn, .int mpt, .int mbg, .int mwr, .int mwk, .int mlf, .int men])), (mw, .inl (ct 0, 958, .inl f))] ++ ws) s.heap.size = A at hD hX ⊢
  have hA : ∀ q : Nat, s.heap.size ≤ q → A q := fun q h => by rw [← hAe]; exact Or.inr h
  have hS : va_S A s.heap s.heap [] := va_S.rf
  have hl := lv_entry ([.ref mo, .int p1]) (n := 4) (Nat.le_of_ble_eq_true rfl)
  rw [lg_entry_eq]
  generalize (lg_sl ([.ref mo, .int p1]) ++ List.replicate (4 - (lg_sl ([.ref mo, .int p1])).length) Slot.unset).toArray = ls at hl ⊢
  have hl : lv_has ls 4 [(0, .ref mo), (1, .int p1)] := hl
  refine lv_aload_n hx hb dX11_wantedOf_0 rfl (lv_at hl 0 rfl) ?_
  refine lv_iload_n hx hb dX11_wantedOf_1 rfl (lv_at hl 1 rfl) ?_
  refine lv_iconst (v := 0) hx hb dX11_wantedOf_2 (by decide) ?_
  refine ty_ki (wr := []) (wc := ([(mo, .inr (11, [.ref mw, .ref ma, .ref mf, .ref m0, .ref m1, .ref mu, .ref mv, .ref u0, .ref u1, .ref iz, .int th, .ref mb, .int mn, .int mpt, .int mbg, .int mwr, .int mwk, .int mlf, .int men])), (mw, .inl (ct 0, 958, .inl f))] ++ ws)) (va_runV (As := [.int p1, .int 0]) (rest := []) ⟨hx, hb, hml, hown, hts⟩ (m_step_0 l D ct S ws mo mw ma mf m0 m1 mu mv u0 u1 iz mb th mn mpt mbg mwr mwk mlf men f G cx p1 _ hT h_mu h_mv h_u0 h_u1 hR hc ho) (cm_V 2 hts kc_X11_step ki_RX11 kl_RX11_228 kv_X11_step kx_X11_step kd_X11_step ⟨Nat.le_of_ble_eq_true rfl, Nat.le_of_ble_eq_true rfl⟩) (ty_preE (wr := []) (wc := ([(mo, .inr (11, [.ref mw, .ref ma, .ref mf, .ref m0, .ref m1, .ref mu, .ref mv, .ref u0, .ref u1, .ref iz, .int th, .ref mb, .int mn, .int mpt, .int mbg, .int mwr, .int mwk, .int mlf, .int men])), (mw, .inl (ct 0, 958, .inl f))] ++ ws)) (ci := 11) (q0 := 0) hP hK hD hS hA hX rfl rfl) rfl rfl hl.1 rfl (lv_room (Nat.le_of_ble_eq_true rfl)) dX11_wantedOf_3 ⟨Nat.le_of_ble_eq_true rfl, Nat.le_of_ble_eq_true rfl⟩) hP hD hS hA (fun r_1 u H locs hw_2 hP hD hS => ?_)
  obtain ⟨ws_3, rfl⟩ : ∃ z, z = u := ⟨_, rfl⟩
  obtain ⟨hT, rfl⟩ := hw_2
  have hP : va_P D vwCl ([(mo, .inr (11, [.ref mw, .ref ma, .ref mf, .ref m0, .ref m1, .ref mu, .ref mv, .ref u0, .ref u1, .ref iz, .int th, .ref mb, .int mn, .int mpt, .int mbg, .int mwr, .int mwk, .int mlf, .int men])), (mw, .inl (ct 0, 958, .inl f))] ++ ws_3) H := hP
  have hD : va_D A ([(mo, .inr (11, [.ref mw, .ref ma, .ref mf, .ref m0, .ref m1, .ref mu, .ref mv, .ref u0, .ref u1, .ref iz, .int th, .ref mb, .int mn, .int mpt, .int mbg, .int mwr, .int mwk, .int mlf, .int men])), (mw, .inl (ct 0, 958, .inl f))] ++ ws_3) := hD
  refine lv_istore_n (lv' := [(2, .int (rf_st3 f p1 0)), (0, .ref mo), (1, .int p1)]) hx hb dX11_wantedOf_6 rfl hl (by decide) rfl (fun ls hl => ?_)
  refine lv_iload_n hx hb dX11_wantedOf_7 rfl (lv_at hl 0 rfl) ?_
  refine lv_if_ne (tgt := 18) hx hb dX11_wantedOf_8 (by decide) (fun hc_4 => ?_) (fun hc_4 => ?_)
  · refine lv_iload_n hx hb dX11_wantedOf_18 rfl (lv_at hl 0 rfl) ?_
    refine lv_iconst (v := 3) hx hb dX11_wantedOf_19 (by decide) ?_
    refine lv_icmp_ne (tgt := 25) hx hb dX11_wantedOf_20 (by decide) (fun hc_5 => ?_) (fun hc_5 => ?_)
    · refine lv_iload_n hx hb dX11_wantedOf_25 rfl (lv_at hl 0 rfl) ?_
      refine lv_iconst (v := 2) hx hb dX11_wantedOf_26 (by decide) ?_
      refine lv_icmp_ne (tgt := 38) hx hb dX11_wantedOf_27 (by decide) (fun hc_6 => ?_) (fun hc_6 => ?_)
      · refine lv_aload_n hx hb dX11_wantedOf_38 rfl (lv_at hl 1 rfl) ?_
        refine lv_iload_n hx hb dX11_wantedOf_39 rfl (lv_at hl 2 rfl) ?_
        refine lv_iconst (v := 1) hx hb dX11_wantedOf_40 (by decide) ?_
        refine ty_ki (wr := []) (wc := ([(mo, .inr (11, [.ref mw, .ref ma, .ref mf, .ref m0, .ref m1, .ref mu, .ref mv, .ref u0, .ref u1, .ref iz, .int th, .ref mb, .int mn, .int mpt, .int mbg, .int mwr, .int mwk, .int mlf, .int men])), (mw, .inl (ct 0, 958, .inl f))] ++ ws_3)) (va_runV (As := [.int p1, .int 1]) (rest := []) ⟨hx, hb, hml, hown, hts⟩ (m_step_1 l D ct S ws_3 mo mw ma mf m0 m1 mu mv u0 u1 iz mb th mn mpt mbg mwr mwk mlf men f G cx p1 _ hT h_mu h_mv h_u0 h_u1 hR hc ho) (cm_V 2 hts kc_X11_step ki_RX11 kl_RX11_228 kv_X11_step kx_X11_step kd_X11_step ⟨Nat.le_of_ble_eq_true rfl, Nat.le_of_ble_eq_true rfl⟩) (ty_preE (wr := []) (wc := ([(mo, .inr (11, [.ref mw, .ref ma, .ref mf, .ref m0, .ref m1, .ref mu, .ref mv, .ref u0, .ref u1, .ref iz, .int th, .ref mb, .int mn, .int mpt, .int mbg, .int mwr, .int mwk, .int mlf, .int men])), (mw, .inl (ct 0, 958, .inl f))] ++ ws_3)) (ci := 11) (q0 := 0) hP hK hD hS hA hX rfl rfl) rfl rfl hl.1 rfl (lv_room (Nat.le_of_ble_eq_true rfl)) dX11_wantedOf_41 ⟨Nat.le_of_ble_eq_true rfl, Nat.le_of_ble_eq_true rfl⟩) hP hD hS hA (fun r_7 u H locs hw_8 hP hD hS => ?_)
        obtain ⟨ws_9, rfl⟩ : ∃ z, z = u := ⟨_, rfl⟩
        obtain ⟨hT, rfl⟩ := hw_8
        have hP : va_P D vwCl ([(mo, .inr (11, [.ref mw, .ref ma, .ref mf, .ref m0, .ref m1, .ref mu, .ref mv, .ref u0, .ref u1, .ref iz, .int th, .ref mb, .int mn, .int mpt, .int mbg, .int mwr, .int mwk, .int mlf, .int men])), (mw, .inl (ct 0, 958, .inl f))] ++ ws_9) H := hP
        have hD : va_D A ([(mo, .inr (11, [.ref mw, .ref ma, .ref mf, .ref m0, .ref m1, .ref mu, .ref mv, .ref u0, .ref u1, .ref iz, .int th, .ref mb, .int mn, .int mpt, .int mbg, .int mwr, .int mwk, .int mlf, .int men])), (mw, .inl (ct 0, 958, .inl f))] ++ ws_9) := hD
        refine lv_aload_n hx hb dX11_wantedOf_44 rfl (lv_at hl 1 rfl) ?_
        refine lv_iload_n hx hb dX11_wantedOf_45 rfl (lv_at hl 2 rfl) ?_
        refine lv_aload_n hx hb dX11_wantedOf_46 rfl (lv_at hl 1 rfl) ?_
        refine lv_iload_n hx hb dX11_wantedOf_47 rfl (lv_at hl 2 rfl) ?_
        refine lv_bipush (v := 6) hx hb dX11_wantedOf_48 (by decide) ?_
        refine ty_ki (wr := []) (wc := ([(mo, .inr (11, [.ref mw, .ref ma, .ref mf, .ref m0, .ref m1, .ref mu, .ref mv, .ref u0, .ref u1, .ref iz, .int th, .ref mb, .int mn, .int mpt, .int mbg, .int mwr, .int mwk, .int mlf, .int men])), (mw, .inl (ct 0, 958, .inl f))] ++ ws_9)) (va_runV (As := [.int p1, .int 6]) (rest := [.int p1, .ref mo, .int (rf_st3 f p1 1)]) ⟨hx, hb, hml, hown, hts⟩ (m_of_6 l D ct S ws_9 mo mw ma mf m0 m1 mu mv u0 u1 iz mb th mn mpt mbg mwr mwk mlf men f G cx p1 _ hT h_mu h_mv h_u0 h_u1 hR hc) (cm_V 2 hts kc_X11_of ki_RX11 kl_RX11_209 kv_X11_of kx_X11_of kd_X11_of ⟨Nat.le_of_ble_eq_true rfl, Nat.le_of_ble_eq_true rfl⟩) (ty_preE (wr := []) (wc := ([(mo, .inr (11, [.ref mw, .ref ma, .ref mf, .ref m0, .ref m1, .ref mu, .ref mv, .ref u0, .ref u1, .ref iz, .int th, .ref mb, .int mn, .int mpt, .int mbg, .int mwr, .int mwk, .int mlf, .int men])), (mw, .inl (ct 0, 958, .inl f))] ++ ws_9)) (ci := 11) (q0 := 0) hP hK hD hS hA hX rfl rfl) rfl rfl hl.1 rfl (lv_room (Nat.le_of_ble_eq_true rfl)) dX11_wantedOf_50 ⟨Nat.le_of_ble_eq_true rfl, Nat.le_of_ble_eq_true rfl⟩) hP hD hS hA (fun r_10 u H locs hw_11 hP hD hS => ?_)
        obtain ⟨ws_12, rfl⟩ : ∃ z, z = u := ⟨_, rfl⟩
        obtain ⟨hT, rfl⟩ := hw_11
        have hP : va_P D vwCl ([(mo, .inr (11, [.ref mw, .ref ma, .ref mf, .ref m0, .ref m1, .ref mu, .ref mv, .ref u0, .ref u1, .ref iz, .int th, .ref mb, .int mn, .int mpt, .int mbg, .int mwr, .int mwk, .int mlf, .int men])), (mw, .inl (ct 0, 958, .inl f))] ++ ws_12) H := hP
        have hD : va_D A ([(mo, .inr (11, [.ref mw, .ref ma, .ref mf, .ref m0, .ref m1, .ref mu, .ref mv, .ref u0, .ref u1, .ref iz, .int th, .ref mb, .int mn, .int mpt, .int mbg, .int mwr, .int mwk, .int mlf, .int men])), (mw, .inl (ct 0, 958, .inl f))] ++ ws_12) := hD
        refine ty_ki (wr := []) (wc := ([(mo, .inr (11, [.ref mw, .ref ma, .ref mf, .ref m0, .ref m1, .ref mu, .ref mv, .ref u0, .ref u1, .ref iz, .int th, .ref mb, .int mn, .int mpt, .int mbg, .int mwr, .int mwk, .int mlf, .int men])), (mw, .inl (ct 0, 958, .inl f))] ++ ws_12)) (va_runV (As := [.int p1, .int (rf_of f p1 6)]) (rest := [.int (rf_st3 f p1 1)]) ⟨hx, hb, hml, hown, hts⟩ (m_X11_restAt l D ct S ws_12 mo mw ma mf m0 m1 mu mv u0 u1 iz mb th mn mpt mbg mwr mwk mlf men f G cx p1 (rf_of f p1 6) _ hT h_mu h_mv h_u0 h_u1 hR hc (rf_qp hR hc).1.1.1) (cm_V 2 hts kc_X11_restAt ki_RX11 kl_RX11_231 kv_X11_restAt kx_X11_restAt kd_X11_restAt ⟨Nat.le_of_ble_eq_true rfl, Nat.le_of_ble_eq_true rfl⟩) (ty_preE (wr := []) (wc := ([(mo, .inr (11, [.ref mw, .ref ma, .ref mf, .ref m0, .ref m1, .ref mu, .ref mv, .ref u0, .ref u1, .ref iz, .int th, .ref mb, .int mn, .int mpt, .int mbg, .int mwr, .int mwk, .int mlf, .int men])), (mw, .inl (ct 0, 958, .inl f))] ++ ws_12)) (ci := 11) (q0 := 0) hP hK hD hS hA hX rfl rfl) rfl rfl hl.1 rfl (lv_room (Nat.le_of_ble_eq_true rfl)) dX11_wantedOf_53 ⟨Nat.le_of_ble_eq_true rfl, Nat.le_of_ble_eq_true rfl⟩) hP hD hS hA (fun r_13 u H locs hw_14 hP hD hS => ?_)
        obtain ⟨ws_15, rfl⟩ : ∃ z, z = u := ⟨_, rfl⟩
        have hT := hw_14
        have hP : va_P D vwCl ([(mo, .inr (11, [.ref mw, .ref ma, .ref mf, .ref m0, .ref m1, .ref mu, .ref mv, .ref u0, .ref u1, .ref iz, .int th, .ref mb, .int mn, .int mpt, .int mbg, .int mwr, .int mwk, .int mlf, .int men])), (mw, .inl (ct 0, 958, .inl f))] ++ ws_15) H := hP
        have hD : va_D A ([(mo, .inr (11, [.ref mw, .ref ma, .ref mf, .ref m0, .ref m1, .ref mu, .ref mv, .ref u0, .ref u1, .ref iz, .int th, .ref mb, .int mn, .int mpt, .int mbg, .int mwr, .int mwk, .int mlf, .int men])), (mw, .inl (ct 0, 958, .inl f))] ++ ws_15) := hD
        refine lv_isub hx hb dX11_wantedOf_56 ?_
        refine lv_topi (fun x_16 _ => ?_)
        refine lv_aload_n hx hb dX11_wantedOf_57 rfl (lv_at hl 1 rfl) ?_
        refine lv_iload_n hx hb dX11_wantedOf_58 rfl (lv_at hl 2 rfl) ?_
        refine lv_bipush (v := 8) hx hb dX11_wantedOf_59 (by decide) ?_
        refine ty_ki (wr := []) (wc := ([(mo, .inr (11, [.ref mw, .ref ma, .ref mf, .ref m0, .ref m1, .ref mu, .ref mv, .ref u0, .ref u1, .ref iz, .int th, .ref mb, .int mn, .int mpt, .int mbg, .int mwr, .int mwk, .int mlf, .int men])), (mw, .inl (ct 0, 958, .inl f))] ++ ws_15)) (va_runV (As := [.int p1, .int 8]) (rest := [.int x_16]) ⟨hx, hb, hml, hown, hts⟩ (m_of_8 l D ct S ws_15 mo mw ma mf m0 m1 mu mv u0 u1 iz mb th mn mpt mbg mwr mwk mlf men f G cx p1 _ hT h_mu h_mv h_u0 h_u1 hR hc) (cm_V 2 hts kc_X11_of ki_RX11 kl_RX11_209 kv_X11_of kx_X11_of kd_X11_of ⟨Nat.le_of_ble_eq_true rfl, Nat.le_of_ble_eq_true rfl⟩) (ty_preE (wr := []) (wc := ([(mo, .inr (11, [.ref mw, .ref ma, .ref mf, .ref m0, .ref m1, .ref mu, .ref mv, .ref u0, .ref u1, .ref iz, .int th, .ref mb, .int mn, .int mpt, .int mbg, .int mwr, .int mwk, .int mlf, .int men])), (mw, .inl (ct 0, 958, .inl f))] ++ ws_15)) (ci := 11) (q0 := 0) hP hK hD hS hA hX rfl rfl) rfl rfl hl.1 rfl (lv_room (Nat.le_of_ble_eq_true rfl)) dX11_wantedOf_61 ⟨Nat.le_of_ble_eq_true rfl, Nat.le_of_ble_eq_true rfl⟩) hP hD hS hA (fun r_17 u H locs hw_18 hP hD hS => ?_)
        obtain ⟨ws_19, rfl⟩ : ∃ z, z = u := ⟨_, rfl⟩
        obtain ⟨hT, rfl⟩ := hw_18
        have hP : va_P D vwCl ([(mo, .inr (11, [.ref mw, .ref ma, .ref mf, .ref m0, .ref m1, .ref mu, .ref mv, .ref u0, .ref u1, .ref iz, .int th, .ref mb, .int mn, .int mpt, .int mbg, .int mwr, .int mwk, .int mlf, .int men])), (mw, .inl (ct 0, 958, .inl f))] ++ ws_19) H := hP
        have hD : va_D A ([(mo, .inr (11, [.ref mw, .ref ma, .ref mf, .ref m0, .ref m1, .ref mu, .ref mv, .ref u0, .ref u1, .ref iz, .int th, .ref mb, .int mn, .int mpt, .int mbg, .int mwr, .int mwk, .int mlf, .int men])), (mw, .inl (ct 0, 958, .inl f))] ++ ws_19) := hD
        refine lv_isub hx hb dX11_wantedOf_64 ?_
        refine lv_topi (fun x_20 _ => ?_)
        refine lv_sipush (v := 1000) hx hb dX11_wantedOf_65 (by decide) ?_
        refine lv_imul hx hb dX11_wantedOf_68 ?_
        refine lv_topi (fun x_21 _ => ?_)
        refine lv_aload_n hx hb dX11_wantedOf_69 rfl (lv_at hl 1 rfl) ?_
        refine lv_iload_n hx hb dX11_wantedOf_70 rfl (lv_at hl 2 rfl) ?_
        refine lv_bipush (v := 13) hx hb dX11_wantedOf_71 (by decide) ?_
        refine ty_ki (wr := []) (wc := ([(mo, .inr (11, [.ref mw, .ref ma, .ref mf, .ref m0, .ref m1, .ref mu, .ref mv, .ref u0, .ref u1, .ref iz, .int th, .ref mb, .int mn, .int mpt, .int mbg, .int mwr, .int mwk, .int mlf, .int men])), (mw, .inl (ct 0, 958, .inl f))] ++ ws_19)) (va_runV (As := [.int p1, .int 13]) (rest := [.int x_21]) ⟨hx, hb, hml, hown, hts⟩ (m_of_13 l D ct S ws_19 mo mw ma mf m0 m1 mu mv u0 u1 iz mb th mn mpt mbg mwr mwk mlf men f G cx p1 _ hT h_mu h_mv h_u0 h_u1 hR hc) (cm_V 2 hts kc_X11_of ki_RX11 kl_RX11_209 kv_X11_of kx_X11_of kd_X11_of ⟨Nat.le_of_ble_eq_true rfl, Nat.le_of_ble_eq_true rfl⟩) (ty_preE (wr := []) (wc := ([(mo, .inr (11, [.ref mw, .ref ma, .ref mf, .ref m0, .ref m1, .ref mu, .ref mv, .ref u0, .ref u1, .ref iz, .int th, .ref mb, .int mn, .int mpt, .int mbg, .int mwr, .int mwk, .int mlf, .int men])), (mw, .inl (ct 0, 958, .inl f))] ++ ws_19)) (ci := 11) (q0 := 0) hP hK hD hS hA hX rfl rfl) rfl rfl hl.1 rfl (lv_room (Nat.le_of_ble_eq_true rfl)) dX11_wantedOf_73 ⟨Nat.le_of_ble_eq_true rfl, Nat.le_of_ble_eq_true rfl⟩) hP hD hS hA (fun r_22 u H locs hw_23 hP hD hS => ?_)
        obtain ⟨ws_24, rfl⟩ : ∃ z, z = u := ⟨_, rfl⟩
        obtain ⟨hT, rfl⟩ := hw_23
        have hP : va_P D vwCl ([(mo, .inr (11, [.ref mw, .ref ma, .ref mf, .ref m0, .ref m1, .ref mu, .ref mv, .ref u0, .ref u1, .ref iz, .int th, .ref mb, .int mn, .int mpt, .int mbg, .int mwr, .int mwk, .int mlf, .int men])), (mw, .inl (ct 0, 958, .inl f))] ++ ws_24) H := hP
        have hD : va_D A ([(mo, .inr (11, [.ref mw, .ref ma, .ref mf, .ref m0, .ref m1, .ref mu, .ref mv, .ref u0, .ref u1, .ref iz, .int th, .ref mb, .int mn, .int mpt, .int mbg, .int mwr, .int mwk, .int mlf, .int men])), (mw, .inl (ct 0, 958, .inl f))] ++ ws_24) := hD
        refine lv_idiv hx hb dX11_wantedOf_76 (rf_nz (rf_stat hR hc).2.1.1) ?_
        refine lv_topi (fun x_25 _ => ?_)
        refine lv_istore_n (lv' := [(3, .int x_25), (2, .int (rf_st3 f p1 0)), (0, .ref mo), (1, .int p1)]) hx hb dX11_wantedOf_77 rfl hl (by decide) rfl (fun ls hl => ?_)
        refine lv_iconst (v := 0) hx hb dX11_wantedOf_78 (by decide) ?_
        refine lv_sipush (v := 5000) hx hb dX11_wantedOf_79 (by decide) ?_
        refine lv_iload_n hx hb dX11_wantedOf_82 rfl (lv_at hl 0 rfl) ?_
        refine va_mmin hx hb (hml.trans hl.1.symm) hown (hts _ kl_RX11_184) (hts _ jm_min_s) (hts _ ki_RJ9) (hts _ jm_min_c) (Nat.le_of_ble_eq_true rfl) (Nat.le_of_ble_eq_true rfl) (Nat.le_of_ble_eq_true rfl) (Nat.le_of_ble_eq_true rfl) dX11_wantedOf_83 ?_
        refine va_mmax hx hb (hml.trans hl.1.symm) hown (hts _ kl_RX11_225) (hts _ jm_max_s) (hts _ ki_RJ9) (hts _ jm_max_c) (Nat.le_of_ble_eq_true rfl) (Nat.le_of_ble_eq_true rfl) (Nat.le_of_ble_eq_true rfl) (Nat.le_of_ble_eq_true rfl) dX11_wantedOf_86 ?_
        exact W.iret (v := (if 0 < (if x_25 < 5000 then x_25 else 5000) then (if x_25 < 5000 then x_25 else 5000) else 0)) hx hb hr (fun t ht hW => ⟨⟨(if 0 < (if x_25 < 5000 then x_25 else 5000) then (if x_25 < 5000 then x_25 else 5000) else 0), ws_24, rfl, ⟨hT, (by have := @rf_mm x_25; omega)⟩, by rw [ht]; exact hP, by rw [hAe]; exact hD⟩, hS.F ht⟩) hS.2.2 dX11_wantedOf_89
      · refine lv_aload_n hx hb dX11_wantedOf_30 rfl (lv_at hl 1 rfl) ?_
        refine lv_iload_n hx hb dX11_wantedOf_31 rfl (lv_at hl 2 rfl) ?_
        refine lv_iconst (v := 1) hx hb dX11_wantedOf_32 (by decide) ?_
        refine ty_ki (wr := []) (wc := ([(mo, .inr (11, [.ref mw, .ref ma, .ref mf, .ref m0, .ref m1, .ref mu, .ref mv, .ref u0, .ref u1, .ref iz, .int th, .ref mb, .int mn, .int mpt, .int mbg, .int mwr, .int mwk, .int mlf, .int men])), (mw, .inl (ct 0, 958, .inl f))] ++ ws_3)) (va_runV (As := [.int p1, .int 1]) (rest := []) ⟨hx, hb, hml, hown, hts⟩ (m_step_1 l D ct S ws_3 mo mw ma mf m0 m1 mu mv u0 u1 iz mb th mn mpt mbg mwr mwk mlf men f G cx p1 _ hT h_mu h_mv h_u0 h_u1 hR hc ho) (cm_V 2 hts kc_X11_step ki_RX11 kl_RX11_228 kv_X11_step kx_X11_step kd_X11_step ⟨Nat.le_of_ble_eq_true rfl, Nat.le_of_ble_eq_true rfl⟩) (ty_preE (wr := []) (wc := ([(mo, .inr (11, [.ref mw, .ref ma, .ref mf, .ref m0, .ref m1, .ref mu, .ref mv, .ref u0, .ref u1, .ref iz, .int th, .ref mb, .int mn, .int mpt, .int mbg, .int mwr, .int mwk, .int mlf, .int men])), (mw, .inl (ct 0, 958, .inl f))] ++ ws_3)) (ci := 11) (q0 := 0) hP hK hD hS hA hX rfl rfl) rfl rfl hl.1 rfl (lv_room (Nat.le_of_ble_eq_true rfl)) dX11_wantedOf_33 ⟨Nat.le_of_ble_eq_true rfl, Nat.le_of_ble_eq_true rfl⟩) hP hD hS hA (fun r_26 u H locs hw_27 hP hD hS => ?_)
        obtain ⟨ws_28, rfl⟩ : ∃ z, z = u := ⟨_, rfl⟩
        obtain ⟨hT, rfl⟩ := hw_27
        have hP : va_P D vwCl ([(mo, .inr (11, [.ref mw, .ref ma, .ref mf, .ref m0, .ref m1, .ref mu, .ref mv, .ref u0, .ref u1, .ref iz, .int th, .ref mb, .int mn, .int mpt, .int mbg, .int mwr, .int mwk, .int mlf, .int men])), (mw, .inl (ct 0, 958, .inl f))] ++ ws_28) H := hP
        have hD : va_D A ([(mo, .inr (11, [.ref mw, .ref ma, .ref mf, .ref m0, .ref m1, .ref mu, .ref mv, .ref u0, .ref u1, .ref iz, .int th, .ref mb, .int mn, .int mpt, .int mbg, .int mwr, .int mwk, .int mlf, .int men])), (mw, .inl (ct 0, 958, .inl f))] ++ ws_28) := hD
        refine lv_ineg hx hb dX11_wantedOf_36 ?_
        exact W.iret (v := (- (rf_st3 f p1 1))) hx hb hr (fun t ht hW => ⟨⟨(- (rf_st3 f p1 1)), ws_28, rfl, ⟨hT, (rf_neg (rf_stb hR ho (by omega)))⟩, by rw [ht]; exact hP, by rw [hAe]; exact hD⟩, hS.F ht⟩) hS.2.2 dX11_wantedOf_37
    · refine lv_iconst (v := 0) hx hb dX11_wantedOf_23 (by decide) ?_
      exact W.iret (v := 0) hx hb hr (fun t ht hW => ⟨⟨0, ws_3, rfl, ⟨hT, (by decide)⟩, by rw [ht]; exact hP, by rw [hAe]; exact hD⟩, hS.F ht⟩) hS.2.2 dX11_wantedOf_24
  · refine lv_aload_n hx hb dX11_wantedOf_11 rfl (lv_at hl 1 rfl) ?_
    refine lv_iload_n hx hb dX11_wantedOf_12 rfl (lv_at hl 2 rfl) ?_
    refine lv_iconst (v := 1) hx hb dX11_wantedOf_13 (by decide) ?_
    refine ty_ki (wr := []) (wc := ([(mo, .inr (11, [.ref mw, .ref ma, .ref mf, .ref m0, .ref m1, .ref mu, .ref mv, .ref u0, .ref u1, .ref iz, .int th, .ref mb, .int mn, .int mpt, .int mbg, .int mwr, .int mwk, .int mlf, .int men])), (mw, .inl (ct 0, 958, .inl f))] ++ ws_3)) (va_runV (As := [.int p1, .int 1]) (rest := []) ⟨hx, hb, hml, hown, hts⟩ (m_step_1 l D ct S ws_3 mo mw ma mf m0 m1 mu mv u0 u1 iz mb th mn mpt mbg mwr mwk mlf men f G cx p1 _ hT h_mu h_mv h_u0 h_u1 hR hc ho) (cm_V 2 hts kc_X11_step ki_RX11 kl_RX11_228 kv_X11_step kx_X11_step kd_X11_step ⟨Nat.le_of_ble_eq_true rfl, Nat.le_of_ble_eq_true rfl⟩) (ty_preE (wr := []) (wc := ([(mo, .inr (11, [.ref mw, .ref ma, .ref mf, .ref m0, .ref m1, .ref mu, .ref mv, .ref u0, .ref u1, .ref iz, .int th, .ref mb, .int mn, .int mpt, .int mbg, .int mwr, .int mwk, .int mlf, .int men])), (mw, .inl (ct 0, 958, .inl f))] ++ ws_3)) (ci := 11) (q0 := 0) hP hK hD hS hA hX rfl rfl) rfl rfl hl.1 rfl (lv_room (Nat.le_of_ble_eq_true rfl)) dX11_wantedOf_14 ⟨Nat.le_of_ble_eq_true rfl, Nat.le_of_ble_eq_true rfl⟩) hP hD hS hA (fun r_29 u H locs hw_30 hP hD hS => ?_)
    obtain ⟨ws_31, rfl⟩ : ∃ z, z = u := ⟨_, rfl⟩
    obtain ⟨hT, rfl⟩ := hw_30
    have hP : va_P D vwCl ([(mo, .inr (11, [.ref mw, .ref ma, .ref mf, .ref m0, .ref m1, .ref mu, .ref mv, .ref u0, .ref u1, .ref iz, .int th, .ref mb, .int mn, .int mpt, .int mbg, .int mwr, .int mwk, .int mlf, .int men])), (mw, .inl (ct 0, 958, .inl f))] ++ ws_31) H := hP
    have hD : va_D A ([(mo, .inr (11, [.ref mw, .ref ma, .ref mf, .ref m0, .ref m1, .ref mu, .ref mv, .ref u0, .ref u1, .ref iz, .int th, .ref mb, .int mn, .int mpt, .int mbg, .int mwr, .int mwk, .int mlf, .int men])), (mw, .inl (ct 0, 958, .inl f))] ++ ws_31) := hD
    exact W.iret (v := (rf_st3 f p1 1)) hx hb hr (fun t ht hW => ⟨⟨(rf_st3 f p1 1), ws_31, rfl, ⟨hT, (by have := rf_stb hR ho (w := 1) (by omega); omega)⟩, by rw [ht]; exact hP, by rw [hAe]; exact hD⟩, hS.F ht⟩) hS.2.2 dX11_wantedOf_17
theorem dX11_currentOf_0 : decode cX11_currentOf 0 = .ok (.aload_n 0, 1) := by decide +kernel
theorem dX11_currentOf_1 : decode cX11_currentOf 1 = .ok (.iload_n 1, 1) := by decide +kernel
theorem dX11_currentOf_2 : decode cX11_currentOf 2 = .ok (.iconst 0, 1) := by decide +kernel
theorem dX11_currentOf_3 : decode cX11_currentOf 3 = .ok (.invokevirtual 209, 3) := by decide +kernel
theorem dX11_currentOf_6 : decode cX11_currentOf 6 = .ok (.iconst 1, 1) := by decide +kernel
theorem dX11_currentOf_7 : decode cX11_currentOf 7 = .ok (.if_icmp .eq 5, 3) := by decide +kernel
theorem dX11_currentOf_10 : decode cX11_currentOf 10 = .ok (.iconst 0, 1) := by decide +kernel
theorem dX11_currentOf_11 : decode cX11_currentOf 11 = .ok (.ireturn, 1) := by decide +kernel
theorem dX11_currentOf_12 : decode cX11_currentOf 12 = .ok (.aload_n 0, 1) := by decide +kernel
theorem dX11_currentOf_13 : decode cX11_currentOf 13 = .ok (.iload_n 1, 1) := by decide +kernel
theorem dX11_currentOf_14 : decode cX11_currentOf 14 = .ok (.invokevirtual 222, 3) := by decide +kernel
theorem dX11_currentOf_17 : decode cX11_currentOf 17 = .ok (.istore_n 2, 1) := by decide +kernel
theorem dX11_currentOf_18 : decode cX11_currentOf 18 = .ok (.aload_n 0, 1) := by decide +kernel
theorem dX11_currentOf_19 : decode cX11_currentOf 19 = .ok (.getfield 9, 3) := by decide +kernel
theorem dX11_currentOf_22 : decode cX11_currentOf 22 = .ok (.bipush 16, 2) := by decide +kernel
theorem dX11_currentOf_24 : decode cX11_currentOf 24 = .ok (.iaload, 1) := by decide +kernel
theorem dX11_currentOf_25 : decode cX11_currentOf 25 = .ok (.ifCond .eq 58, 3) := by decide +kernel
theorem dX11_currentOf_28 : decode cX11_currentOf 28 = .ok (.aload_n 0, 1) := by decide +kernel
theorem dX11_currentOf_29 : decode cX11_currentOf 29 = .ok (.iload_n 1, 1) := by decide +kernel
theorem dX11_currentOf_30 : decode cX11_currentOf 30 = .ok (.bipush 9, 2) := by decide +kernel
theorem dX11_currentOf_32 : decode cX11_currentOf 32 = .ok (.invokevirtual 209, 3) := by decide +kernel
theorem dX11_currentOf_35 : decode cX11_currentOf 35 = .ok (.aload_n 0, 1) := by decide +kernel
theorem dX11_currentOf_36 : decode cX11_currentOf 36 = .ok (.getfield 9, 3) := by decide +kernel
theorem dX11_currentOf_39 : decode cX11_currentOf 39 = .ok (.bipush 6, 2) := by decide +kernel
theorem dX11_currentOf_41 : decode cX11_currentOf 41 = .ok (.iaload, 1) := by decide +kernel
theorem dX11_currentOf_42 : decode cX11_currentOf 42 = .ok (.aload_n 0, 1) := by decide +kernel
theorem dX11_currentOf_43 : decode cX11_currentOf 43 = .ok (.getfield 9, 3) := by decide +kernel
theorem dX11_currentOf_46 : decode cX11_currentOf 46 = .ok (.bipush 16, 2) := by decide +kernel
theorem dX11_currentOf_48 : decode cX11_currentOf 48 = .ok (.iaload, 1) := by decide +kernel
theorem dX11_currentOf_49 : decode cX11_currentOf 49 = .ok (.isub, 1) := by decide +kernel
theorem dX11_currentOf_50 : decode cX11_currentOf 50 = .ok (.if_icmp .le 33, 3) := by decide +kernel
theorem dX11_currentOf_53 : decode cX11_currentOf 53 = .ok (.iload_n 2, 1) := by decide +kernel
theorem dX11_currentOf_54 : decode cX11_currentOf 54 = .ok (.iconst 0, 1) := by decide +kernel
theorem dX11_currentOf_55 : decode cX11_currentOf 55 = .ok (.aload_n 0, 1) := by decide +kernel
theorem dX11_currentOf_56 : decode cX11_currentOf 56 = .ok (.getfield 9, 3) := by decide +kernel
theorem dX11_currentOf_59 : decode cX11_currentOf 59 = .ok (.bipush 6, 2) := by decide +kernel
theorem dX11_currentOf_61 : decode cX11_currentOf 61 = .ok (.iaload, 1) := by decide +kernel
theorem dX11_currentOf_62 : decode cX11_currentOf 62 = .ok (.aload_n 0, 1) := by decide +kernel
theorem dX11_currentOf_63 : decode cX11_currentOf 63 = .ok (.iload_n 1, 1) := by decide +kernel
theorem dX11_currentOf_64 : decode cX11_currentOf 64 = .ok (.bipush 9, 2) := by decide +kernel
theorem dX11_currentOf_66 : decode cX11_currentOf 66 = .ok (.invokevirtual 209, 3) := by decide +kernel
theorem dX11_currentOf_69 : decode cX11_currentOf 69 = .ok (.isub, 1) := by decide +kernel
theorem dX11_currentOf_70 : decode cX11_currentOf 70 = .ok (.invokestatic 225, 3) := by decide +kernel
theorem dX11_currentOf_73 : decode cX11_currentOf 73 = .ok (.imul, 1) := by decide +kernel
theorem dX11_currentOf_74 : decode cX11_currentOf 74 = .ok (.aload_n 0, 1) := by decide +kernel
theorem dX11_currentOf_75 : decode cX11_currentOf 75 = .ok (.getfield 9, 3) := by decide +kernel
theorem dX11_currentOf_78 : decode cX11_currentOf 78 = .ok (.bipush 16, 2) := by decide +kernel
theorem dX11_currentOf_80 : decode cX11_currentOf 80 = .ok (.iaload, 1) := by decide +kernel
theorem dX11_currentOf_81 : decode cX11_currentOf 81 = .ok (.idiv, 1) := by decide +kernel
theorem dX11_currentOf_82 : decode cX11_currentOf 82 = .ok (.istore_n 2, 1) := by decide +kernel
theorem dX11_currentOf_83 : decode cX11_currentOf 83 = .ok (.iload_n 2, 1) := by decide +kernel
theorem dX11_currentOf_84 : decode cX11_currentOf 84 = .ok (.aload_n 0, 1) := by decide +kernel
theorem dX11_currentOf_85 : decode cX11_currentOf 85 = .ok (.iload_n 1, 1) := by decide +kernel
theorem dX11_currentOf_86 : decode cX11_currentOf 86 = .ok (.bipush 6, 2) := by decide +kernel
theorem dX11_currentOf_88 : decode cX11_currentOf 88 = .ok (.invokevirtual 209, 3) := by decide +kernel
theorem dX11_currentOf_91 : decode cX11_currentOf 91 = .ok (.ineg, 1) := by decide +kernel
theorem dX11_currentOf_92 : decode cX11_currentOf 92 = .ok (.invokestatic 225, 3) := by decide +kernel
theorem dX11_currentOf_95 : decode cX11_currentOf 95 = .ok (.ireturn, 1) := by decide +kernel
set_option maxRecDepth 100000 in
set_option maxHeartbeats 4000000 in
theorem m_X11_currentOf (l : Launch) (D : va_G) (ct : Nat → ClassId) (S : ty_S) (ws : va_W) (mo : Nat) (mw : Nat) (ma : Nat) (mf : Nat) (m0 : Nat) (m1 : Nat) (mu : Nat) (mv : Nat) (u0 : Nat) (u1 : Nat) (iz : Nat) (mb : Nat) (th : Int32) (mn : Int32) (mpt : Int32) (mbg : Int32) (mwr : Int32) (mwk : Int32) (mlf : Int32) (men : Int32) (f : Nat → Int32) (G : Nat → Int32) (p1 : Int32) (sz : Nat) (hT : ty_W ct S ws) (h_mu : S mu = some (.inr (1, 42))) (h_mv : S mv = some (.inr (1, 42))) (h_u0 : S u0 = some (.inr (1, 42))) (h_u1 : S u1 = some (.inr (1, 42))) (hR : rf_R G (-1) f) (hc : 0 ≤ p1.toInt ∧ p1.toInt < (G 9).toInt) : Met l yX11_currentOf (ws_ yX11_currentOf cX11_currentOf 3 (some .int)) ({ frames := 3, cells := 0, slots := 0, locals := 76 } : Room) (va_Pc [.ref mo, .int p1] (cmP D ct sz ([(mo, .inr (11, [.ref mw, .ref ma, .ref mf, .ref m0, .ref m1, .ref mu, .ref mv, .ref u0, .ref u1, .ref iz, .int th, .ref mb, .int mn, .int mpt, .int mbg, .int mwr, .int mwk, .int mlf, .int men])), (mw, .inl (ct 0, 958, .inl f))] ++ ws))) (va_Qi (fun (r : Int32) (u9 : va_W) => ty_W ct S u9 ∧ -((rf_of f p1 6).toInt) ≤ r.toInt ∧ r.toInt ≤ 5000) (cmB D ([(mo, .inr (11, [.ref mw, .ref ma, .ref mf, .ref m0, .ref m1, .ref mu, .ref mv, .ref u0, .ref u1, .ref iz, .int th, .ref mb, .int mn, .int mpt, .int mbg, .int mwr, .int mwk, .int mlf, .int men])), (mw, .inl (ct 0, 958, .inl f))] ++ ws) sz (fun (u9 : va_W) => ([(mo, .inr (11, [.ref mw, .ref ma, .ref mf, .ref m0, .ref m1, .ref mu, .ref mv, .ref u0, .ref u1, .ref iz, .int th, .ref mb, .int mn, .int mpt, .int mbg, .int mwr, .int mwk, .int mlf, .int men])), (mw, .inl (ct 0, 958, .inl f))] ++ u9))) (va_A ([(mo, .inr (11, [.ref mw, .ref ma, .ref mf, .ref m0, .ref m1, .ref mu, .ref mv, .ref u0, .ref u1, .ref iz, .int th, .ref mb, .int mn, .int mpt, .int mbg, .int mwr, .int mwk, .int mlf, .int men])), (mw, .inl (ct 0, 958, .inl f))] ++ ws) sz)) 0 0 (va_A ([(mo, .inr (11, [.ref mw, .ref ma, .ref mf, .ref m0, .ref m1, .ref mu, .ref mv, .ref u0, .ref u1, .ref iz, .int th, .ref mb, .int mn, .int mpt, .int mbg, .int mwr, .int mwk, .int mlf, .int men])), (mw, .inl (ct 0, 958, .inl f))] ++ ws) sz) := by
  refine Met.ofW (cc := cX11_currentOf) (maxL := 3) (ret := (some .int)) (by decide) rfl ?_
  intro p e s m args below meth c s₁ B hml hv
  obtain ⟨rfl, hsz, hP, hK, hD0, hX⟩ := hv
  have hx := B.exec
  have hb := B.bytes
  have hr := B.returns
  have hts := ws_all (atoms_spec (ws := ws_ yX11_currentOf cX11_currentOf 3 (some .int)) B.pre)
  have hown : s.vm.findClass RX11 = some m.cls := findClass_of_methodNamed B.named
  have hlocks := B.notSynchronized
  subst hsz
  have hD := hD0.self (sz := s.heap.size)
  generalize hAe : va_A ([(mo, .inr (11, [.ref mw, .ref ma, .ref mf, .ref m0, .ref m1, .ref mu, .ref mv, .ref u0, .ref u1, .ref iz, .int th, .ref mb, .int mn, .int mpt, .int mbg, .int mwr, .int mwk, .int mlf, .int men])), (mw, .inl (ct 0, 958, .inl f))] ++ ws) s.heap.size = A at hD hX ⊢
  have hA : ∀ q : Nat, s.heap.size ≤ q → A q := fun q h => by rw [← hAe]; exact Or.inr h
  have hS : va_S A s.heap s.heap [] := va_S.rf
  have hl := lv_entry ([.ref mo, .int p1]) (n := 3) (Nat.le_of_ble_eq_true rfl)
  rw [lg_entry_eq]
  generalize (lg_sl ([.ref mo, .int p1]) ++ List.replicate (3 - (lg_sl ([.ref mo, .int p1])).length) Slot.unset).toArray = ls at hl ⊢
  have hl : lv_has ls 3 [(0, .ref mo), (1, .int p1)] := hl
  refine lv_aload_n hx hb dX11_currentOf_0 rfl (lv_at hl 0 rfl) ?_
  refine lv_iload_n hx hb dX11_currentOf_1 rfl (lv_at hl 1 rfl) ?_
  refine lv_iconst (v := 0) hx hb dX11_currentOf_2 (by decide) ?_
  refine ty_ki (wr := []) (wc := ([(mo, .inr (11, [.ref mw, .ref ma, .ref mf, .ref m0, .ref m1, .ref mu, .ref mv, .ref u0, .ref u1, .ref iz, .int th, .ref mb, .int mn, .int mpt, .int mbg, .int mwr, .int mwk, .int mlf, .int men])), (mw, .inl (ct 0, 958, .inl f))] ++ ws)) (va_runV (As := [.int p1, .int 0]) (rest := []) ⟨hx, hb, hml, hown, hts⟩ (m_of_0 l D ct S ws mo mw ma mf m0 m1 mu mv u0 u1 iz mb th mn mpt mbg mwr mwk mlf men f G (-1) p1 _ hT h_mu h_mv h_u0 h_u1 hR hc) (cm_V 2 hts kc_X11_of ki_RX11 kl_RX11_209 kv_X11_of kx_X11_of kd_X11_of ⟨Nat.le_of_ble_eq_true rfl, Nat.le_of_ble_eq_true rfl⟩) (ty_preE (wr := []) (wc := ([(mo, .inr (11, [.ref mw, .ref ma, .ref mf, .ref m0, .ref m1, .ref mu, .ref mv, .ref u0, .ref u1, .ref iz, .int th, .ref mb, .int mn, .int mpt, .int mbg, .int mwr, .int mwk, .int mlf, .int men])), (mw, .inl (ct 0, 958, .inl f))] ++ ws)) (ci := 11) (q0 := 0) hP hK hD hS hA hX rfl rfl) rfl rfl hl.1 rfl (lv_room (Nat.le_of_ble_eq_true rfl)) dX11_currentOf_3 ⟨Nat.le_of_ble_eq_true rfl, Nat.le_of_ble_eq_true rfl⟩) hP hD hS hA (fun r_1 u H locs hw_2 hP hD hS => ?_)
  obtain ⟨ws_3, rfl⟩ : ∃ z, z = u := ⟨_, rfl⟩
  obtain ⟨hT, rfl⟩ := hw_2
  have hP : va_P D vwCl ([(mo, .inr (11, [.ref mw, .ref ma, .ref mf, .ref m0, .ref m1, .ref mu, .ref mv, .ref u0, .ref u1, .ref iz, .int th, .ref mb, .int mn, .int mpt, .int mbg, .int mwr, .int mwk, .int mlf, .int men])), (mw, .inl (ct 0, 958, .inl f))] ++ ws_3) H := hP
  have hD : va_D A ([(mo, .inr (11, [.ref mw, .ref ma, .ref mf, .ref m0, .ref m1, .ref mu, .ref mv, .ref u0, .ref u1, .ref iz, .int th, .ref mb, .int mn, .int mpt, .int mbg, .int mwr, .int mwk, .int mlf, .int men])), (mw, .inl (ct 0, 958, .inl f))] ++ ws_3) := hD
  refine lv_iconst (v := 1) hx hb dX11_currentOf_6 (by decide) ?_
  refine lv_icmp_eq (tgt := 12) hx hb dX11_currentOf_7 (by decide) (fun hc_4 => ?_) (fun hc_4 => ?_)
  · refine lv_aload_n hx hb dX11_currentOf_12 rfl (lv_at hl 0 rfl) ?_
    refine lv_iload_n hx hb dX11_currentOf_13 rfl (lv_at hl 1 rfl) ?_
    refine ty_ki (wr := []) (wc := ([(mo, .inr (11, [.ref mw, .ref ma, .ref mf, .ref m0, .ref m1, .ref mu, .ref mv, .ref u0, .ref u1, .ref iz, .int th, .ref mb, .int mn, .int mpt, .int mbg, .int mwr, .int mwk, .int mlf, .int men])), (mw, .inl (ct 0, 958, .inl f))] ++ ws_3)) (va_runV (As := [.int p1]) (rest := []) ⟨hx, hb, hml, hown, hts⟩ (m_X11_wantedOf l D ct S ws_3 mo mw ma mf m0 m1 mu mv u0 u1 iz mb th mn mpt mbg mwr mwk mlf men f G (-1) p1 _ hT h_mu h_mv h_u0 h_u1 hR hc (rf_onr hR hc (Or.inl hc_4))) (cm_V 1 hts kc_X11_wantedOf ki_RX11 kl_RX11_222 kv_X11_wantedOf kx_X11_wantedOf kd_X11_wantedOf ⟨Nat.le_of_ble_eq_true rfl, Nat.le_of_ble_eq_true rfl⟩) (ty_preE (wr := []) (wc := ([(mo, .inr (11, [.ref mw, .ref ma, .ref mf, .ref m0, .ref m1, .ref mu, .ref mv, .ref u0, .ref u1, .ref iz, .int th, .ref mb, .int mn, .int mpt, .int mbg, .int mwr, .int mwk, .int mlf, .int men])), (mw, .inl (ct 0, 958, .inl f))] ++ ws_3)) (ci := 11) (q0 := 0) hP hK hD hS hA hX rfl rfl) rfl rfl hl.1 rfl (lv_room (Nat.le_of_ble_eq_true rfl)) dX11_currentOf_14 ⟨Nat.le_of_ble_eq_true rfl, Nat.le_of_ble_eq_true rfl⟩) hP hD hS hA (fun r_5 u H locs hw_6 hP hD hS => ?_)
    obtain ⟨ws_7, rfl⟩ : ∃ z, z = u := ⟨_, rfl⟩
    obtain ⟨hT, hp_8⟩ := hw_6
    have hp_8 : -5000 ≤ r_5.toInt ∧ r_5.toInt ≤ 5000 := hp_8
    have hP : va_P D vwCl ([(mo, .inr (11, [.ref mw, .ref ma, .ref mf, .ref m0, .ref m1, .ref mu, .ref mv, .ref u0, .ref u1, .ref iz, .int th, .ref mb, .int mn, .int mpt, .int mbg, .int mwr, .int mwk, .int mlf, .int men])), (mw, .inl (ct 0, 958, .inl f))] ++ ws_7) H := hP
    have hD : va_D A ([(mo, .inr (11, [.ref mw, .ref ma, .ref mf, .ref m0, .ref m1, .ref mu, .ref mv, .ref u0, .ref u1, .ref iz, .int th, .ref mb, .int mn, .int mpt, .int mbg, .int mwr, .int mwk, .int mlf, .int men])), (mw, .inl (ct 0, 958, .inl f))] ++ ws_7) := hD
    refine lv_istore_n (lv' := [(2, .int r_5), (0, .ref mo), (1, .int p1)]) hx hb dX11_currentOf_17 rfl hl (by decide) rfl (fun ls hl => ?_)
    refine lv_aload_n hx hb dX11_currentOf_18 rfl (lv_at hl 1 rfl) ?_
    refine va_get (v := .ref mw) (D := D) (ci := 11) (C := RX11) (T := TX11) (N := 19) hx hb hts in_X11 hown hK hP 0 rfl rfl 0 (by decide) (hts _ kl_RX11_9) (fun _ h9 => h9) rfl dX11_currentOf_19 ?_
    refine lv_bipush (v := 16) hx hb dX11_currentOf_22 (by decide) ?_
    refine va_iald hx hb hK hP 1 0 rfl rfl (cm_vin (by decide)) dX11_currentOf_24 ?_
    refine cm_cst (y := (f 16)) (by first | rfl | decide +kernel) ?_
    refine lv_if_eq (tgt := 83) hx hb dX11_currentOf_25 (by decide) (fun hc_9 => ?_) (fun hc_9 => ?_)
    · refine lv_iload_n hx hb dX11_currentOf_83 rfl (lv_at hl 0 rfl) ?_
      refine lv_aload_n hx hb dX11_currentOf_84 rfl (lv_at hl 1 rfl) ?_
      refine lv_iload_n hx hb dX11_currentOf_85 rfl (lv_at hl 2 rfl) ?_
      refine lv_bipush (v := 6) hx hb dX11_currentOf_86 (by decide) ?_
      refine ty_ki (wr := []) (wc := ([(mo, .inr (11, [.ref mw, .ref ma, .ref mf, .ref m0, .ref m1, .ref mu, .ref mv, .ref u0, .ref u1, .ref iz, .int th, .ref mb, .int mn, .int mpt, .int mbg, .int mwr, .int mwk, .int mlf, .int men])), (mw, .inl (ct 0, 958, .inl f))] ++ ws_7)) (va_runV (As := [.int p1, .int 6]) (rest := [.int r_5]) ⟨hx, hb, hml, hown, hts⟩ (m_of_6 l D ct S ws_7 mo mw ma mf m0 m1 mu mv u0 u1 iz mb th mn mpt mbg mwr mwk mlf men f G (-1) p1 _ hT h_mu h_mv h_u0 h_u1 hR hc) (cm_V 2 hts kc_X11_of ki_RX11 kl_RX11_209 kv_X11_of kx_X11_of kd_X11_of ⟨Nat.le_of_ble_eq_true rfl, Nat.le_of_ble_eq_true rfl⟩) (ty_preE (wr := []) (wc := ([(mo, .inr (11, [.ref mw, .ref ma, .ref mf, .ref m0, .ref m1, .ref mu, .ref mv, .ref u0, .ref u1, .ref iz, .int th, .ref mb, .int mn, .int mpt, .int mbg, .int mwr, .int mwk, .int mlf, .int men])), (mw, .inl (ct 0, 958, .inl f))] ++ ws_7)) (ci := 11) (q0 := 0) hP hK hD hS hA hX rfl rfl) rfl rfl hl.1 rfl (lv_room (Nat.le_of_ble_eq_true rfl)) dX11_currentOf_88 ⟨Nat.le_of_ble_eq_true rfl, Nat.le_of_ble_eq_true rfl⟩) hP hD hS hA (fun r_10 u H locs hw_11 hP hD hS => ?_)
      obtain ⟨ws_12, rfl⟩ : ∃ z, z = u := ⟨_, rfl⟩
      obtain ⟨hT, rfl⟩ := hw_11
      have hP : va_P D vwCl ([(mo, .inr (11, [.ref mw, .ref ma, .ref mf, .ref m0, .ref m1, .ref mu, .ref mv, .ref u0, .ref u1, .ref iz, .int th, .ref mb, .int mn, .int mpt, .int mbg, .int mwr, .int mwk, .int mlf, .int men])), (mw, .inl (ct 0, 958, .inl f))] ++ ws_12) H := hP
      have hD : va_D A ([(mo, .inr (11, [.ref mw, .ref ma, .ref mf, .ref m0, .ref m1, .ref mu, .ref mv, .ref u0, .ref u1, .ref iz, .int th, .ref mb, .int mn, .int mpt, .int mbg, .int mwr, .int mwk, .int mlf, .int men])), (mw, .inl (ct 0, 958, .inl f))] ++ ws_12) := hD
      refine lv_ineg hx hb dX11_currentOf_91 ?_
      refine va_mmax hx hb (hml.trans hl.1.symm) hown (hts _ kl_RX11_225) (hts _ jm_max_s) (hts _ ki_RJ9) (hts _ jm_max_c) (Nat.le_of_ble_eq_true rfl) (Nat.le_of_ble_eq_true rfl) (Nat.le_of_ble_eq_true rfl) (Nat.le_of_ble_eq_true rfl) dX11_currentOf_92 ?_
      exact W.iret (v := (if r_5 < (- (rf_of f p1 6)) then (- (rf_of f p1 6)) else r_5)) hx hb hr (fun t ht hW => ⟨⟨(if r_5 < (- (rf_of f p1 6)) then (- (rf_of f p1 6)) else r_5), ws_12, rfl, ⟨hT, (rf_mxq hp_8.2 (rf_qp hR hc).1.1.1)⟩, by rw [ht]; exact hP, by rw [hAe]; exact hD⟩, hS.F ht⟩) hS.2.2 dX11_currentOf_95
    · refine lv_aload_n hx hb dX11_currentOf_28 rfl (lv_at hl 1 rfl) ?_
      refine lv_iload_n hx hb dX11_currentOf_29 rfl (lv_at hl 2 rfl) ?_
      refine lv_bipush (v := 9) hx hb dX11_currentOf_30 (by decide) ?_
      refine ty_ki (wr := []) (wc := ([(mo, .inr (11, [.ref mw, .ref ma, .ref mf, .ref m0, .ref m1, .ref mu, .ref mv, .ref u0, .ref u1, .ref iz, .int th, .ref mb, .int mn, .int mpt, .int mbg, .int mwr, .int mwk, .int mlf, .int men])), (mw, .inl (ct 0, 958, .inl f))] ++ ws_7)) (va_runV (As := [.int p1, .int 9]) (rest := []) ⟨hx, hb, hml, hown, hts⟩ (m_of_9 l D ct S ws_7 mo mw ma mf m0 m1 mu mv u0 u1 iz mb th mn mpt mbg mwr mwk mlf men f G (-1) p1 _ hT h_mu h_mv h_u0 h_u1 hR hc) (cm_V 2 hts kc_X11_of ki_RX11 kl_RX11_209 kv_X11_of kx_X11_of kd_X11_of ⟨Nat.le_of_ble_eq_true rfl, Nat.le_of_ble_eq_true rfl⟩) (ty_preE (wr := []) (wc := ([(mo, .inr (11, [.ref mw, .ref ma, .ref mf, .ref m0, .ref m1, .ref mu, .ref mv, .ref u0, .ref u1, .ref iz, .int th, .ref mb, .int mn, .int mpt, .int mbg, .int mwr, .int mwk, .int mlf, .int men])), (mw, .inl (ct 0, 958, .inl f))] ++ ws_7)) (ci := 11) (q0 := 0) hP hK hD hS hA hX rfl rfl) rfl rfl hl.1 rfl (lv_room (Nat.le_of_ble_eq_true rfl)) dX11_currentOf_32 ⟨Nat.le_of_ble_eq_true rfl, Nat.le_of_ble_eq_true rfl⟩) hP hD hS hA (fun r_13 u H locs hw_14 hP hD hS => ?_)
      obtain ⟨ws_15, rfl⟩ : ∃ z, z = u := ⟨_, rfl⟩
      obtain ⟨hT, rfl⟩ := hw_14
      have hP : va_P D vwCl ([(mo, .inr (11, [.ref mw, .ref ma, .ref mf, .ref m0, .ref m1, .ref mu, .ref mv, .ref u0, .ref u1, .ref iz, .int th, .ref mb, .int mn, .int mpt, .int mbg, .int mwr, .int mwk, .int mlf, .int men])), (mw, .inl (ct 0, 958, .inl f))] ++ ws_15) H := hP
      have hD : va_D A ([(mo, .inr (11, [.ref mw, .ref ma, .ref mf, .ref m0, .ref m1, .ref mu, .ref mv, .ref u0, .ref u1, .ref iz, .int th, .ref mb, .int mn, .int mpt, .int mbg, .int mwr, .int mwk, .int mlf, .int men])), (mw, .inl (ct 0, 958, .inl f))] ++ ws_15) := hD
      refine lv_aload_n hx hb dX11_currentOf_35 rfl (lv_at hl 1 rfl) ?_
      refine va_get (v := .ref mw) (D := D) (ci := 11) (C := RX11) (T := TX11) (N := 19) hx hb hts in_X11 hown hK hP 0 rfl rfl 0 (by decide) (hts _ kl_RX11_9) (fun _ h9 => h9) rfl dX11_currentOf_36 ?_
      refine lv_bipush (v := 6) hx hb dX11_currentOf_39 (by decide) ?_
      refine va_iald hx hb hK hP 1 0 rfl rfl (cm_vin (by decide)) dX11_currentOf_41 ?_
      refine cm_cst (y := (f 6)) (by first | rfl | decide +kernel) ?_
      refine lv_aload_n hx hb dX11_currentOf_42 rfl (lv_at hl 1 rfl) ?_
      refine va_get (v := .ref mw) (D := D) (ci := 11) (C := RX11) (T := TX11) (N := 19) hx hb hts in_X11 hown hK hP 0 rfl rfl 0 (by decide) (hts _ kl_RX11_9) (fun _ h9 => h9) rfl dX11_currentOf_43 ?_
      refine lv_bipush (v := 16) hx hb dX11_currentOf_46 (by decide) ?_
      refine va_iald hx hb hK hP 1 0 rfl rfl (cm_vin (by decide)) dX11_currentOf_48 ?_
      refine cm_cst (y := (f 16)) (by first | rfl | decide +kernel) ?_
      refine lv_isub hx hb dX11_currentOf_49 ?_
      refine lv_icmp_le (tgt := 83) hx hb dX11_currentOf_50 (by decide) (fun hc_16 => ?_) (fun hc_16 => ?_)
      · refine lv_iload_n hx hb dX11_currentOf_83 rfl (lv_at hl 0 rfl) ?_
        refine lv_aload_n hx hb dX11_currentOf_84 rfl (lv_at hl 1 rfl) ?_
        refine lv_iload_n hx hb dX11_currentOf_85 rfl (lv_at hl 2 rfl) ?_
        refine lv_bipush (v := 6) hx hb dX11_currentOf_86 (by decide) ?_
        refine ty_ki (wr := []) (wc := ([(mo, .inr (11, [.ref mw, .ref ma, .ref mf, .ref m0, .ref m1, .ref mu, .ref mv, .ref u0, .ref u1, .ref iz, .int th, .ref mb, .int mn, .int mpt, .int mbg, .int mwr, .int mwk, .int mlf, .int men])), (mw, .inl (ct 0, 958, .inl f))] ++ ws_15)) (va_runV (As := [.int p1, .int 6]) (rest := [.int r_5]) ⟨hx, hb, hml, hown, hts⟩ (m_of_6 l D ct S ws_15 mo mw ma mf m0 m1 mu mv u0 u1 iz mb th mn mpt mbg mwr mwk mlf men f G (-1) p1 _ hT h_mu h_mv h_u0 h_u1 hR hc) (cm_V 2 hts kc_X11_of ki_RX11 kl_RX11_209 kv_X11_of kx_X11_of kd_X11_of ⟨Nat.le_of_ble_eq_true rfl, Nat.le_of_ble_eq_true rfl⟩) (ty_preE (wr := []) (wc := ([(mo, .inr (11, [.ref mw, .ref ma, .ref mf, .ref m0, .ref m1, .ref mu, .ref mv, .ref u0, .ref u1, .ref iz, .int th, .ref mb, .int mn, .int mpt, .int mbg, .int mwr, .int mwk, .int mlf, .int men])), (mw, .inl (ct 0, 958, .inl f))] ++ ws_15)) (ci := 11) (q0 := 0) hP hK hD hS hA hX rfl rfl) rfl rfl hl.1 rfl (lv_room (Nat.le_of_ble_eq_true rfl)) dX11_currentOf_88 ⟨Nat.le_of_ble_eq_true rfl, Nat.le_of_ble_eq_true rfl⟩) hP hD hS hA (fun r_17 u H locs hw_18 hP hD hS => ?_)
        obtain ⟨ws_19, rfl⟩ : ∃ z, z = u := ⟨_, rfl⟩
        obtain ⟨hT, rfl⟩ := hw_18
        have hP : va_P D vwCl ([(mo, .inr (11, [.ref mw, .ref ma, .ref mf, .ref m0, .ref m1, .ref mu, .ref mv, .ref u0, .ref u1, .ref iz, .int th, .ref mb, .int mn, .int mpt, .int mbg, .int mwr, .int mwk, .int mlf, .int men])), (mw, .inl (ct 0, 958, .inl f))] ++ ws_19) H := hP
        have hD : va_D A ([(mo, .inr (11, [.ref mw, .ref ma, .ref mf, .ref m0, .ref m1, .ref mu, .ref mv, .ref u0, .ref u1, .ref iz, .int th, .ref mb, .int mn, .int mpt, .int mbg, .int mwr, .int mwk, .int mlf, .int men])), (mw, .inl (ct 0, 958, .inl f))] ++ ws_19) := hD
        refine lv_ineg hx hb dX11_currentOf_91 ?_
        refine va_mmax hx hb (hml.trans hl.1.symm) hown (hts _ kl_RX11_225) (hts _ jm_max_s) (hts _ ki_RJ9) (hts _ jm_max_c) (Nat.le_of_ble_eq_true rfl) (Nat.le_of_ble_eq_true rfl) (Nat.le_of_ble_eq_true rfl) (Nat.le_of_ble_eq_true rfl) dX11_currentOf_92 ?_
        exact W.iret (v := (if r_5 < (- (rf_of f p1 6)) then (- (rf_of f p1 6)) else r_5)) hx hb hr (fun t ht hW => ⟨⟨(if r_5 < (- (rf_of f p1 6)) then (- (rf_of f p1 6)) else r_5), ws_19, rfl, ⟨hT, (rf_mxq hp_8.2 (rf_qp hR hc).1.1.1)⟩, by rw [ht]; exact hP, by rw [hAe]; exact hD⟩, hS.F ht⟩) hS.2.2 dX11_currentOf_95
      · refine lv_iload_n hx hb dX11_currentOf_53 rfl (lv_at hl 0 rfl) ?_
        refine lv_iconst (v := 0) hx hb dX11_currentOf_54 (by decide) ?_
        refine lv_aload_n hx hb dX11_currentOf_55 rfl (lv_at hl 1 rfl) ?_
        refine va_get (v := .ref mw) (D := D) (ci := 11) (C := RX11) (T := TX11) (N := 19) hx hb hts in_X11 hown hK hP 0 rfl rfl 0 (by decide) (hts _ kl_RX11_9) (fun _ h9 => h9) rfl dX11_currentOf_56 ?_
        refine lv_bipush (v := 6) hx hb dX11_currentOf_59 (by decide) ?_
        refine va_iald hx hb hK hP 1 0 rfl rfl (cm_vin (by decide)) dX11_currentOf_61 ?_
        refine cm_cst (y := (f 6)) (by first | rfl | decide +kernel) ?_
        refine lv_aload_n hx hb dX11_currentOf_62 rfl (lv_at hl 1 rfl) ?_
        refine lv_iload_n hx hb dX11_currentOf_63 rfl (lv_at hl 2 rfl) ?_
        refine lv_bipush (v := 9) hx hb dX11_currentOf_64 (by decide) ?_
        refine ty_ki (wr := []) (wc := ([(mo, .inr (11, [.ref mw, .ref ma, .ref mf, .ref m0, .ref m1, .ref mu, .ref mv, .ref u0, .ref u1, .ref iz, .int th, .ref mb, .int mn, .int mpt, .int mbg, .int mwr, .int mwk, .int mlf, .int men])), (mw, .inl (ct 0, 958, .inl f))] ++ ws_15)) (va_runV (As := [.int p1, .int 9]) (rest := [.int (f 6), .int 0, .int r_5]) ⟨hx, hb, hml, hown, hts⟩ (m_of_9 l D ct S ws_15 mo mw ma mf m0 m1 mu mv u0 u1 iz mb th mn mpt mbg mwr mwk mlf men f G (-1) p1 _ hT h_mu h_mv h_u0 h_u1 hR hc) (cm_V 2 hts kc_X11_of ki_RX11 kl_RX11_209 kv_X11_of kx_X11_of kd_X11_of ⟨Nat.le_of_ble_eq_true rfl, Nat.le_of_ble_eq_true rfl⟩) (ty_preE (wr := []) (wc := ([(mo, .inr (11, [.ref mw, .ref ma, .ref mf, .ref m0, .ref m1, .ref mu, .ref mv, .ref u0, .ref u1, .ref iz, .int th, .ref mb, .int mn, .int mpt, .int mbg, .int mwr, .int mwk, .int mlf, .int men])), (mw, .inl (ct 0, 958, .inl f))] ++ ws_15)) (ci := 11) (q0 := 0) hP hK hD hS hA hX rfl rfl) rfl rfl hl.1 rfl (lv_room (Nat.le_of_ble_eq_true rfl)) dX11_currentOf_66 ⟨Nat.le_of_ble_eq_true rfl, Nat.le_of_ble_eq_true rfl⟩) hP hD hS hA (fun r_20 u H locs hw_21 hP hD hS => ?_)
        obtain ⟨ws_22, rfl⟩ : ∃ z, z = u := ⟨_, rfl⟩
        obtain ⟨hT, rfl⟩ := hw_21
        have hP : va_P D vwCl ([(mo, .inr (11, [.ref mw, .ref ma, .ref mf, .ref m0, .ref m1, .ref mu, .ref mv, .ref u0, .ref u1, .ref iz, .int th, .ref mb, .int mn, .int mpt, .int mbg, .int mwr, .int mwk, .int mlf, .int men])), (mw, .inl (ct 0, 958, .inl f))] ++ ws_22) H := hP
        have hD : va_D A ([(mo, .inr (11, [.ref mw, .ref ma, .ref mf, .ref m0, .ref m1, .ref mu, .ref mv, .ref u0, .ref u1, .ref iz, .int th, .ref mb, .int mn, .int mpt, .int mbg, .int mwr, .int mwk, .int mlf, .int men])), (mw, .inl (ct 0, 958, .inl f))] ++ ws_22) := hD
        refine lv_isub hx hb dX11_currentOf_69 ?_
        refine va_mmax hx hb (hml.trans hl.1.symm) hown (hts _ kl_RX11_225) (hts _ jm_max_s) (hts _ ki_RJ9) (hts _ jm_max_c) (Nat.le_of_ble_eq_true rfl) (Nat.le_of_ble_eq_true rfl) (Nat.le_of_ble_eq_true rfl) (Nat.le_of_ble_eq_true rfl) dX11_currentOf_70 ?_
        refine lv_imul hx hb dX11_currentOf_73 ?_
        refine lv_aload_n hx hb dX11_currentOf_74 rfl (lv_at hl 1 rfl) ?_
        refine va_get (v := .ref mw) (D := D) (ci := 11) (C := RX11) (T := TX11) (N := 19) hx hb hts in_X11 hown hK hP 0 rfl rfl 0 (by decide) (hts _ kl_RX11_9) (fun _ h9 => h9) rfl dX11_currentOf_75 ?_
        refine lv_bipush (v := 16) hx hb dX11_currentOf_78 (by decide) ?_
        refine va_iald hx hb hK hP 1 0 rfl rfl (cm_vin (by decide)) dX11_currentOf_80 ?_
        refine cm_cst (y := (f 16)) (by first | rfl | decide +kernel) ?_
        refine lv_idiv hx hb dX11_currentOf_81 hc_9 ?_
        refine lv_istore_n (lv' := [(2, .int ((r_5 * (if 0 < ((f 6) - (rf_of f p1 9)) then ((f 6) - (rf_of f p1 9)) else 0)) / (f 16))), (0, .ref mo), (1, .int p1)]) hx hb dX11_currentOf_82 rfl hl (by decide) rfl (fun ls hl => ?_)
        refine lv_iload_n hx hb dX11_currentOf_83 rfl (lv_at hl 0 rfl) ?_
        refine lv_aload_n hx hb dX11_currentOf_84 rfl (lv_at hl 1 rfl) ?_
        refine lv_iload_n hx hb dX11_currentOf_85 rfl (lv_at hl 2 rfl) ?_
        refine lv_bipush (v := 6) hx hb dX11_currentOf_86 (by decide) ?_
        refine ty_ki (wr := []) (wc := ([(mo, .inr (11, [.ref mw, .ref ma, .ref mf, .ref m0, .ref m1, .ref mu, .ref mv, .ref u0, .ref u1, .ref iz, .int th, .ref mb, .int mn, .int mpt, .int mbg, .int mwr, .int mwk, .int mlf, .int men])), (mw, .inl (ct 0, 958, .inl f))] ++ ws_22)) (va_runV (As := [.int p1, .int 6]) (rest := [.int ((r_5 * (if 0 < ((f 6) - (rf_of f p1 9)) then ((f 6) - (rf_of f p1 9)) else 0)) / (f 16))]) ⟨hx, hb, hml, hown, hts⟩ (m_of_6 l D ct S ws_22 mo mw ma mf m0 m1 mu mv u0 u1 iz mb th mn mpt mbg mwr mwk mlf men f G (-1) p1 _ hT h_mu h_mv h_u0 h_u1 hR hc) (cm_V 2 hts kc_X11_of ki_RX11 kl_RX11_209 kv_X11_of kx_X11_of kd_X11_of ⟨Nat.le_of_ble_eq_true rfl, Nat.le_of_ble_eq_true rfl⟩) (ty_preE (wr := []) (wc := ([(mo, .inr (11, [.ref mw, .ref ma, .ref mf, .ref m0, .ref m1, .ref mu, .ref mv, .ref u0, .ref u1, .ref iz, .int th, .ref mb, .int mn, .int mpt, .int mbg, .int mwr, .int mwk, .int mlf, .int men])), (mw, .inl (ct 0, 958, .inl f))] ++ ws_22)) (ci := 11) (q0 := 0) hP hK hD hS hA hX rfl rfl) rfl rfl hl.1 rfl (lv_room (Nat.le_of_ble_eq_true rfl)) dX11_currentOf_88 ⟨Nat.le_of_ble_eq_true rfl, Nat.le_of_ble_eq_true rfl⟩) hP hD hS hA (fun r_23 u H locs hw_24 hP hD hS => ?_)
        obtain ⟨ws_25, rfl⟩ : ∃ z, z = u := ⟨_, rfl⟩
        obtain ⟨hT, rfl⟩ := hw_24
        have hP : va_P D vwCl ([(mo, .inr (11, [.ref mw, .ref ma, .ref mf, .ref m0, .ref m1, .ref mu, .ref mv, .ref u0, .ref u1, .ref iz, .int th, .ref mb, .int mn, .int mpt, .int mbg, .int mwr, .int mwk, .int mlf, .int men])), (mw, .inl (ct 0, 958, .inl f))] ++ ws_25) H := hP
        have hD : va_D A ([(mo, .inr (11, [.ref mw, .ref ma, .ref mf, .ref m0, .ref m1, .ref mu, .ref mv, .ref u0, .ref u1, .ref iz, .int th, .ref mb, .int mn, .int mpt, .int mbg, .int mwr, .int mwk, .int mlf, .int men])), (mw, .inl (ct 0, 958, .inl f))] ++ ws_25) := hD
        refine lv_ineg hx hb dX11_currentOf_91 ?_
        refine va_mmax hx hb (hml.trans hl.1.symm) hown (hts _ kl_RX11_225) (hts _ jm_max_s) (hts _ ki_RJ9) (hts _ jm_max_c) (Nat.le_of_ble_eq_true rfl) (Nat.le_of_ble_eq_true rfl) (Nat.le_of_ble_eq_true rfl) (Nat.le_of_ble_eq_true rfl) dX11_currentOf_92 ?_
        exact W.iret (v := (if ((r_5 * (if 0 < ((f 6) - (rf_of f p1 9)) then ((f 6) - (rf_of f p1 9)) else 0)) / (f 16)) < (- (rf_of f p1 6)) then (- (rf_of f p1 6)) else ((r_5 * (if 0 < ((f 6) - (rf_of f p1 9)) then ((f 6) - (rf_of f p1 9)) else 0)) / (f 16)))) hx hb hr (fun t ht hW => ⟨⟨(if ((r_5 * (if 0 < ((f 6) - (rf_of f p1 9)) then ((f 6) - (rf_of f p1 9)) else 0)) / (f 16)) < (- (rf_of f p1 6)) then (- (rf_of f p1 6)) else ((r_5 * (if 0 < ((f 6) - (rf_of f p1 9)) then ((f 6) - (rf_of f p1 9)) else 0)) / (f 16))), ws_25, rfl, ⟨hT, (rf_mxq (rf_der hp_8 (rf_hs hR).1 (rf_hs hR).2.1 hc_9 hc_16).2 (rf_qp hR hc).1.1.1)⟩, by rw [ht]; exact hP, by rw [hAe]; exact hD⟩, hS.F ht⟩) hS.2.2 dX11_currentOf_95
  · refine lv_iconst (v := 0) hx hb dX11_currentOf_10 (by decide) ?_
    exact W.iret (v := 0) hx hb hr (fun t ht hW => ⟨⟨0, ws_3, rfl, ⟨hT, (by have := rf_qp hR hc; constructor <;> (rw [show (0 : Int32).toInt = 0 from by decide]; omega))⟩, by rw [ht]; exact hP, by rw [hAe]; exact hD⟩, hS.F ht⟩) hS.2.2 dX11_currentOf_11
