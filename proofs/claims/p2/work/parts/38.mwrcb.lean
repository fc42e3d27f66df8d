theorem dX11_reasonNow_0 : decode cX11_reasonNow 0 = .ok (.aload_n 0, 1) := by decide +kernel
theorem dX11_reasonNow_1 : decode cX11_reasonNow 1 = .ok (.iload_n 1, 1) := by decide +kernel
theorem dX11_reasonNow_2 : decode cX11_reasonNow 2 = .ok (.iconst 5, 1) := by decide +kernel
theorem dX11_reasonNow_3 : decode cX11_reasonNow 3 = .ok (.invokevirtual 209, 3) := by decide +kernel
theorem dX11_reasonNow_6 : decode cX11_reasonNow 6 = .ok (.aload_n 0, 1) := by decide +kernel
theorem dX11_reasonNow_7 : decode cX11_reasonNow 7 = .ok (.getfield 9, 3) := by decide +kernel
theorem dX11_reasonNow_10 : decode cX11_reasonNow 10 = .ok (.iconst 5, 1) := by decide +kernel
theorem dX11_reasonNow_11 : decode cX11_reasonNow 11 = .ok (.iaload, 1) := by decide +kernel
theorem dX11_reasonNow_12 : decode cX11_reasonNow 12 = .ok (.if_icmp .le 5, 3) := by decide +kernel
theorem dX11_reasonNow_15 : decode cX11_reasonNow 15 = .ok (.iconst 1, 1) := by decide +kernel
theorem dX11_reasonNow_16 : decode cX11_reasonNow 16 = .ok (.ireturn, 1) := by decide +kernel
theorem dX11_reasonNow_17 : decode cX11_reasonNow 17 = .ok (.aload_n 0, 1) := by decide +kernel
theorem dX11_reasonNow_18 : decode cX11_reasonNow 18 = .ok (.iload_n 1, 1) := by decide +kernel
theorem dX11_reasonNow_19 : decode cX11_reasonNow 19 = .ok (.iconst 5, 1) := by decide +kernel
theorem dX11_reasonNow_20 : decode cX11_reasonNow 20 = .ok (.invokevirtual 209, 3) := by decide +kernel
theorem dX11_reasonNow_23 : decode cX11_reasonNow 23 = .ok (.aload_n 0, 1) := by decide +kernel
theorem dX11_reasonNow_24 : decode cX11_reasonNow 24 = .ok (.getfield 9, 3) := by decide +kernel
theorem dX11_reasonNow_27 : decode cX11_reasonNow 27 = .ok (.iconst 4, 1) := by decide +kernel
theorem dX11_reasonNow_28 : decode cX11_reasonNow 28 = .ok (.iaload, 1) := by decide +kernel
theorem dX11_reasonNow_29 : decode cX11_reasonNow 29 = .ok (.if_icmp .ge 5, 3) := by decide +kernel
theorem dX11_reasonNow_32 : decode cX11_reasonNow 32 = .ok (.iconst 2, 1) := by decide +kernel
theorem dX11_reasonNow_33 : decode cX11_reasonNow 33 = .ok (.ireturn, 1) := by decide +kernel
theorem dX11_reasonNow_34 : decode cX11_reasonNow 34 = .ok (.aload_n 0, 1) := by decide +kernel
theorem dX11_reasonNow_35 : decode cX11_reasonNow 35 = .ok (.iload_n 1, 1) := by decide +kernel
theorem dX11_reasonNow_36 : decode cX11_reasonNow 36 = .ok (.bipush 9, 2) := by decide +kernel
theorem dX11_reasonNow_38 : decode cX11_reasonNow 38 = .ok (.invokevirtual 209, 3) := by decide +kernel
theorem dX11_reasonNow_41 : decode cX11_reasonNow 41 = .ok (.aload_n 0, 1) := by decide +kernel
theorem dX11_reasonNow_42 : decode cX11_reasonNow 42 = .ok (.getfield 9, 3) := by decide +kernel
theorem dX11_reasonNow_45 : decode cX11_reasonNow 45 = .ok (.bipush 6, 2) := by decide +kernel
theorem dX11_reasonNow_47 : decode cX11_reasonNow 47 = .ok (.iaload, 1) := by decide +kernel
theorem dX11_reasonNow_48 : decode cX11_reasonNow 48 = .ok (.if_icmp .le 5, 3) := by decide +kernel
theorem dX11_reasonNow_51 : decode cX11_reasonNow 51 = .ok (.iconst 3, 1) := by decide +kernel
theorem dX11_reasonNow_52 : decode cX11_reasonNow 52 = .ok (.ireturn, 1) := by decide +kernel
theorem dX11_reasonNow_53 : decode cX11_reasonNow 53 = .ok (.aload_n 0, 1) := by decide +kernel
theorem dX11_reasonNow_54 : decode cX11_reasonNow 54 = .ok (.iload_n 1, 1) := by decide +kernel
theorem dX11_reasonNow_55 : decode cX11_reasonNow 55 = .ok (.iconst 3, 1) := by decide +kernel
theorem dX11_reasonNow_56 : decode cX11_reasonNow 56 = .ok (.invokevirtual 209, 3) := by decide +kernel
theorem dX11_reasonNow_59 : decode cX11_reasonNow 59 = .ok (.sipush 20000, 3) := by decide +kernel
theorem dX11_reasonNow_62 : decode cX11_reasonNow 62 = .ok (.if_icmp .lt 15, 3) := by decide +kernel
theorem dX11_reasonNow_65 : decode cX11_reasonNow 65 = .ok (.aload_n 0, 1) := by decide +kernel
theorem dX11_reasonNow_66 : decode cX11_reasonNow 66 = .ok (.iload_n 1, 1) := by decide +kernel
theorem dX11_reasonNow_67 : decode cX11_reasonNow 67 = .ok (.invokevirtual 258, 3) := by decide +kernel
theorem dX11_reasonNow_70 : decode cX11_reasonNow 70 = .ok (.ifCond .ne 7, 3) := by decide +kernel
theorem dX11_reasonNow_73 : decode cX11_reasonNow 73 = .ok (.iconst 4, 1) := by decide +kernel
theorem dX11_reasonNow_74 : decode cX11_reasonNow 74 = .ok (.goto 4, 3) := by decide +kernel
theorem dX11_reasonNow_77 : decode cX11_reasonNow 77 = .ok (.iconst 0, 1) := by decide +kernel
theorem dX11_reasonNow_78 : decode cX11_reasonNow 78 = .ok (.ireturn, 1) := by decide +kernel
set_option maxRecDepth 100000 in
set_option maxHeartbeats 4000000 in
theorem m_X11_reasonNow (l : Launch) (D : va_G) (ct : Nat → ClassId) (S : ty_S) (ws : va_W) (mo : Nat) (mw : Nat) (ma : Nat) (mf : Nat) (m0 : Nat) (m1 : Nat) (mu : Nat) (mv : Nat) (u0 : Nat) (u1 : Nat) (iz : Nat) (mb : Nat) (th : Int32) (mn : Int32) (mpt : Int32) (mbg : Int32) (mwr : Int32) (mwk : Int32) (mlf : Int32) (men : Int32) (f : Nat → Int32) (G : Nat → Int32) (cx : Int) (p1 : Int32) (sz : Nat) (hT : ty_W ct S ws) (h_mu : S mu = some (.inr (1, 42))) (h_mv : S mv = some (.inr (1, 42))) (h_u0 : S u0 = some (.inr (1, 42))) (h_u1 : S u1 = some (.inr (1, 42))) (hR : rf_R G cx f) (hc : 0 ≤ p1.toInt ∧ p1.toInt < (G 9).toInt) (ho : rf_on G f p1) : Met l yX11_reasonNow (ws_ yX11_reasonNow cX11_reasonNow 2 (some .int)) ({ frames := 3, cells := 0, slots := 0, locals := 66 } : Room) (va_Pc [.ref mo, .int p1] (cmP D ct sz ([(mo, .inr (11, [.ref mw, .ref ma, .ref mf, .ref m0, .ref m1, .ref mu, .ref mv, .ref u0, .ref u1, .ref iz, .int th, .ref mb, .int mn, .int mpt, .int mbg, .int mwr, .int mwk, .int mlf, .int men])), (mw, .inl (ct 0, 958, .inl f))] ++ ws))) (va_Qi (fun (r : Int32) (u9 : va_W) => ty_W ct S u9) (cmB D ([(mo, .inr (11, [.ref mw, .ref ma, .ref mf, .ref m0, .ref m1, .ref mu, .ref mv, .ref u0, .ref u1, .ref iz, .int th, .ref mb, .int mn, .int mpt, .int mbg, .int mwr, .int mwk, .int mlf, .int men])), (mw, .inl (ct 0, 958, .inl f))] ++ ws) sz (fun (u9 : va_W) => ([(mo, .inr (11, [.ref mw, .ref ma, .ref mf, .ref m0, .ref m1, .ref mu, .ref mv, .ref u0, .ref u1, .ref iz, .int th, .ref mb, .int mn, .int mpt, .int mbg, .int mwr, .int mwk, .int mlf, .int men])), (mw, .inl (ct 0, 958, .inl f))] ++ u9))) (va_A ([(mo, .inr (11, [.ref mw, .ref ma, .ref mf, .ref m0, .ref m1, .ref mu, .ref mv, .ref u0, .ref u1, .ref iz, .int th, .ref mb, .int mn, .int mpt, .int mbg, .int mwr, .int mwk, .int mlf, .int men])), (mw, .inl (ct 0, 958, .inl f))] ++ ws) sz)) 0 0 (va_A ([(mo, .inr (11, [.ref mw, .ref ma, .ref mf, .ref m0, .ref m1, .ref mu, .ref mv, .ref u0, .ref u1, .ref iz, .int th, .ref mb, .int mn, .int mpt, .int mbg, .int mwr, .int mwk, .int mlf, .int men])), (mw, .inl (ct 0, 958, .inl f))] ++ ws) sz) := by
  refine Met.ofW (cc := cX11_reasonNow) (maxL := 2) (ret := (some .int)) (by decide) rfl ?_
  intro p e s m args below meth c s₁ B hml hv
  obtain ⟨rfl, hsz, hP, hK, hD0, hX⟩ := hv
  have hx := B.exec
  have hb := B.bytes
  have hr := B.returns
  have hts := ws_all (atoms_spec (ws := ws_ yX11_reasonNow cX11_reasonNow 2 (some .int)) B.pre)
  have hown : s.vm.findClass RX11 = some m.cls := findClass_of_methodNamed B.named
  have hlocks := B.notSynchronized
  subst hsz
  have hD := hD0.self (sz := s.heap.size)
  generalize hAe : va_A ([(mo, .inr (11, [.ref mw, .ref ma, .ref mf, .ref m0, .ref m1, .ref mu, .ref mv, .ref u0, .ref u1, .ref iz, .int th, .ref mb, .int mn, .int mpt, .int mbg, .int mwr, .int mwk, .int mlf, .int men])), (mw, .inl (ct 0, 958, .inl f))] ++ ws) s.heap.size = A at hD hX ⊢
  have hA : ∀ q : Nat, s.heap.size ≤ q → A q := fun q h => by rw [← hAe]; exact Or.inr h
  have hS : va_S A s.heap s.heap [] := va_S.rf
  have hl := lv_entry ([.ref mo, .int p1]) (n := 2) (Nat.le_of_ble_eq_true rfl)
  rw [lg_entry_eq]
  generalize (lg_sl ([.ref mo, .int p1]) ++ List.replicate (2 - (lg_sl ([.ref mo, .int p1])).length) Slot.unset).toArray = ls at hl ⊢
  have hl : lv_has ls 2 [(0, .ref mo), (1, .int p1)] := hl
  refine lv_aload_n hx hb dX11_reasonNow_0 rfl (lv_at hl 0 rfl) ?_
  refine lv_iload_n hx hb dX11_reasonNow_1 rfl (lv_at hl 1 rfl) ?_
  refine lv_iconst (v := 5) hx hb dX11_reasonNow_2 (by decide) ?_
  refine ty_ki (wr := []) (wc := ([(mo, .inr (11, [.ref mw, .ref ma, .ref mf, .ref m0, .ref m1, .ref mu, .ref mv, .ref u0, .ref u1, .ref iz, .int th, .ref mb, .int mn, .int mpt, .int mbg, .int mwr, .int mwk, .int mlf, .int men])), (mw, .inl (ct 0, 958, .inl f))] ++ ws)) (va_runV (As := [.int p1, .int 5]) (rest := []) ⟨hx, hb, hml, hown, hts⟩ (m_of_5 l D ct S ws mo mw ma mf m0 m1 mu mv u0 u1 iz mb th mn mpt mbg mwr mwk mlf men f G cx p1 _ hT h_mu h_mv h_u0 h_u1 hR hc) (cm_V 2 hts kc_X11_of ki_RX11 kl_RX11_209 kv_X11_of kx_X11_of kd_X11_of ⟨Nat.le_of_ble_eq_true rfl, Nat.le_of_ble_eq_true rfl⟩) (ty_preE (wr := []) (wc := ([(mo, .inr (11, [.ref mw, .ref ma, .ref mf, .ref m0, .ref m1, .ref mu, .ref mv, .ref u0, .ref u1, .ref iz, .int th, .ref mb, .int mn, .int mpt, .int mbg, .int mwr, .int mwk, .int mlf, .int men])), (mw, .inl (ct 0, 958, .inl f))] ++ ws)) (ci := 11) (q0 := 0) hP hK hD hS hA hX rfl rfl) rfl rfl hl.1 rfl (lv_room (Nat.le_of_ble_eq_true rfl)) dX11_reasonNow_3 ⟨Nat.le_of_ble_eq_true rfl, Nat.le_of_ble_eq_true rfl⟩) hP hD hS hA (fun r_1 u H locs hw_2 hP hD hS => ?_)
  obtain ⟨ws_3, rfl⟩ : ∃ z, z = u := ⟨_, rfl⟩
  obtain ⟨hT, rfl⟩ := hw_2
  have hP : va_P D vwCl ([(mo, .inr (11, [.ref mw, .ref ma, .ref mf, .ref m0, .ref m1, .ref mu, .ref mv, .ref u0, .ref u1, .ref iz, .int th, .ref mb, .int mn, .int mpt, .int mbg, .int mwr, .int mwk, .int mlf, .int men])), (mw, .inl (ct 0, 958, .inl f))] ++ ws_3) H := hP
  have hD : va_D A ([(mo, .inr (11, [.ref mw, .ref ma, .ref mf, .ref m0, .ref m1, .ref mu, .ref mv, .ref u0, .ref u1, .ref iz, .int th, .ref mb, .int mn, .int mpt, .int mbg, .int mwr, .int mwk, .int mlf, .int men])), (mw, .inl (ct 0, 958, .inl f))] ++ ws_3) := hD
  refine lv_aload_n hx hb dX11_reasonNow_6 rfl (lv_at hl 0 rfl) ?_
  refine va_get (v := .ref mw) (D := D) (ci := 11) (C := RX11) (T := TX11) (N := 19) hx hb hts in_X11 hown hK hP 0 rfl rfl 0 (by decide) (hts _ kl_RX11_9) (fun _ h9 => h9) rfl dX11_reasonNow_7 ?_
  refine lv_iconst (v := 5) hx hb dX11_reasonNow_10 (by decide) ?_
  refine va_iald hx hb hK hP 1 0 rfl rfl (cm_vin (by decide)) dX11_reasonNow_11 ?_
  refine cm_cst (y := (f 5)) (by first | rfl | decide +kernel) ?_
  refine lv_icmp_le (tgt := 17) hx hb dX11_reasonNow_12 (by decide) (fun hc_4 => ?_) (fun hc_4 => ?_)
  · refine lv_aload_n hx hb dX11_reasonNow_17 rfl (lv_at hl 0 rfl) ?_
    refine lv_iload_n hx hb dX11_reasonNow_18 rfl (lv_at hl 1 rfl) ?_
    refine lv_iconst (v := 5) hx hb dX11_reasonNow_19 (by decide) ?_
    refine ty_ki (wr := []) (wc := ([(mo, .inr (11, [.ref mw, .ref ma, .ref mf, .ref m0, .ref m1, .ref mu, .ref mv, .ref u0, .ref u1, .ref iz, .int th, .ref mb, .int mn, .int mpt, .int mbg, .int mwr, .int mwk, .int mlf, .int men])), (mw, .inl (ct 0, 958, .inl f))] ++ ws_3)) (va_runV (As := [.int p1, .int 5]) (rest := []) ⟨hx, hb, hml, hown, hts⟩ (m_of_5 l D ct S ws_3 mo mw ma mf m0 m1 mu mv u0 u1 iz mb th mn mpt mbg mwr mwk mlf men f G cx p1 _ hT h_mu h_mv h_u0 h_u1 hR hc) (cm_V 2 hts kc_X11_of ki_RX11 kl_RX11_209 kv_X11_of kx_X11_of kd_X11_of ⟨Nat.le_of_ble_eq_true rfl, Nat.le_of_ble_eq_true rfl⟩) (ty_preE (wr := []) (wc := ([(mo, .inr (11, [.ref mw, .ref ma, .ref mf, .ref m0, .ref m1, .ref mu, .ref mv, .ref u0, .ref u1, .ref iz, .int th, .ref mb, .int mn, .int mpt, .int mbg, .int mwr, .int mwk, .int mlf, .int men])), (mw, .inl (ct 0, 958, .inl f))] ++ ws_3)) (ci := 11) (q0 := 0) hP hK hD hS hA hX rfl rfl) rfl rfl hl.1 rfl (lv_room (Nat.le_of_ble_eq_true rfl)) dX11_reasonNow_20 ⟨Nat.le_of_ble_eq_true rfl, Nat.le_of_ble_eq_true rfl⟩) hP hD hS hA (fun r_5 u H locs hw_6 hP hD hS => ?_)
    obtain ⟨ws_7, rfl⟩ : ∃ z, z = u := ⟨_, rfl⟩
    obtain ⟨hT, rfl⟩ := hw_6
    have hP : va_P D vwCl ([(mo, .inr (11, [.ref mw, .ref ma, .ref mf, .ref m0, .ref m1, .ref mu, .ref mv, .ref u0, .ref u1, .ref iz, .int th, .ref mb, .int mn, .int mpt, .int mbg, .int mwr, .int mwk, .int mlf, .int men])), (mw, .inl (ct 0, 958, .inl f))] ++ ws_7) H := hP
    have hD : va_D A ([(mo, .inr (11, [.ref mw, .ref ma, .ref mf, .ref m0, .ref m1, .ref mu, .ref mv, .ref u0, .ref u1, .ref iz, .int th, .ref mb, .int mn, .int mpt, .int mbg, .int mwr, .int mwk, .int mlf, .int men])), (mw, .inl (ct 0, 958, .inl f))] ++ ws_7) := hD
    refine lv_aload_n hx hb dX11_reasonNow_23 rfl (lv_at hl 0 rfl) ?_
    refine va_get (v := .ref mw) (D := D) (ci := 11) (C := RX11) (T := TX11) (N := 19) hx hb hts in_X11 hown hK hP 0 rfl rfl 0 (by decide) (hts _ kl_RX11_9) (fun _ h9 => h9) rfl dX11_reasonNow_24 ?_
    refine lv_iconst (v := 4) hx hb dX11_reasonNow_27 (by decide) ?_
    refine va_iald hx hb hK hP 1 0 rfl rfl (cm_vin (by decide)) dX11_reasonNow_28 ?_
    refine cm_cst (y := (f 4)) (by first | rfl | decide +kernel) ?_
    refine lv_icmp_ge (tgt := 34) hx hb dX11_reasonNow_29 (by decide) (fun hc_8 => ?_) (fun hc_8 => ?_)
    · refine lv_aload_n hx hb dX11_reasonNow_34 rfl (lv_at hl 0 rfl) ?_
      refine lv_iload_n hx hb dX11_reasonNow_35 rfl (lv_at hl 1 rfl) ?_
      refine lv_bipush (v := 9) hx hb dX11_reasonNow_36 (by decide) ?_
      refine ty_ki (wr := []) (wc := ([(mo, .inr (11, [.ref mw, .ref ma, .ref mf, .ref m0, .ref m1, .ref mu, .ref mv, .ref u0, .ref u1, .ref iz, .int th, .ref mb, .int mn, .int mpt, .int mbg, .int mwr, .int mwk, .int mlf, .int men])), (mw, .inl (ct 0, 958, .inl f))] ++ ws_7)) (va_runV (As := [.int p1, .int 9]) (rest := []) ⟨hx, hb, hml, hown, hts⟩ (m_of_9 l D ct S ws_7 mo mw ma mf m0 m1 mu mv u0 u1 iz mb th mn mpt mbg mwr mwk mlf men f G cx p1 _ hT h_mu h_mv h_u0 h_u1 hR hc) (cm_V 2 hts kc_X11_of ki_RX11 kl_RX11_209 kv_X11_of kx_X11_of kd_X11_of ⟨Nat.le_of_ble_eq_true rfl, Nat.le_of_ble_eq_true rfl⟩) (ty_preE (wr := []) (wc := ([(mo, .inr (11, [.ref mw, .ref ma, .ref mf, .ref m0, .ref m1, .ref mu, .ref mv, .ref u0, .ref u1, .ref iz, .int th, .ref mb, .int mn, .int mpt, .int mbg, .int mwr, .int mwk, .int mlf, .int men])), (mw, .inl (ct 0, 958, .inl f))] ++ ws_7)) (ci := 11) (q0 := 0) hP hK hD hS hA hX rfl rfl) rfl rfl hl.1 rfl (lv_room (Nat.le_of_ble_eq_true rfl)) dX11_reasonNow_38 ⟨Nat.le_of_ble_eq_true rfl, Nat.le_of_ble_eq_true rfl⟩) hP hD hS hA (fun r_9 u H locs hw_10 hP hD hS => ?_)
      obtain ⟨ws_11, rfl⟩ : ∃ z, z = u := ⟨_, rfl⟩
      obtain ⟨hT, rfl⟩ := hw_10
      have hP : va_P D vwCl ([(mo, .inr (11, [.ref mw, .ref ma, .ref mf, .ref m0, .ref m1, .ref mu, .ref mv, .ref u0, .ref u1, .ref iz, .int th, .ref mb, .int mn, .int mpt, .int mbg, .int mwr, .int mwk, .int mlf, .int men])), (mw, .inl (ct 0, 958, .inl f))] ++ ws_11) H := hP
      have hD : va_D A ([(mo, .inr (11, [.ref mw, .ref ma, .ref mf, .ref m0, .ref m1, .ref mu, .ref mv, .ref u0, .ref u1, .ref iz, .int th, .ref mb, .int mn, .int mpt, .int mbg, .int mwr, .int mwk, .int mlf, .int men])), (mw, .inl (ct 0, 958, .inl f))] ++ ws_11) := hD
      refine lv_aload_n hx hb dX11_reasonNow_41 rfl (lv_at hl 0 rfl) ?_
      refine va_get (v := .ref mw) (D := D) (ci := 11) (C := RX11) (T := TX11) (N := 19) hx hb hts in_X11 hown hK hP 0 rfl rfl 0 (by decide) (hts _ kl_RX11_9) (fun _ h9 => h9) rfl dX11_reasonNow_42 ?_
      refine lv_bipush (v := 6) hx hb dX11_reasonNow_45 (by decide) ?_
      refine va_iald hx hb hK hP 1 0 rfl rfl (cm_vin (by decide)) dX11_reasonNow_47 ?_
      refine cm_cst (y := (f 6)) (by first | rfl | decide +kernel) ?_
      refine lv_icmp_le (tgt := 53) hx hb dX11_reasonNow_48 (by decide) (fun hc_12 => ?_) (fun hc_12 => ?_)
      · refine lv_aload_n hx hb dX11_reasonNow_53 rfl (lv_at hl 0 rfl) ?_
        refine lv_iload_n hx hb dX11_reasonNow_54 rfl (lv_at hl 1 rfl) ?_
        refine lv_iconst (v := 3) hx hb dX11_reasonNow_55 (by decide) ?_
        refine ty_ki (wr := []) (wc := ([(mo, .inr (11, [.ref mw, .ref ma, .ref mf, .ref m0, .ref m1, .ref mu, .ref mv, .ref u0, .ref u1, .ref iz, .int th, .ref mb, .int mn, .int mpt, .int mbg, .int mwr, .int mwk, .int mlf, .int men])), (mw, .inl (ct 0, 958, .inl f))] ++ ws_11)) (va_runV (As := [.int p1, .int 3]) (rest := []) ⟨hx, hb, hml, hown, hts⟩ (m_of_3 l D ct S ws_11 mo mw ma mf m0 m1 mu mv u0 u1 iz mb th mn mpt mbg mwr mwk mlf men f G cx p1 _ hT h_mu h_mv h_u0 h_u1 hR hc) (cm_V 2 hts kc_X11_of ki_RX11 kl_RX11_209 kv_X11_of kx_X11_of kd_X11_of ⟨Nat.le_of_ble_eq_true rfl, Nat.le_of_ble_eq_true rfl⟩) (ty_preE (wr := []) (wc := ([(mo, .inr (11, [.ref mw, .ref ma, .ref mf, .ref m0, .ref m1, .ref mu, .ref mv, .ref u0, .ref u1, .ref iz, .int th, .ref mb, .int mn, .int mpt, .int mbg, .int mwr, .int mwk, .int mlf, .int men])), (mw, .inl (ct 0, 958, .inl f))] ++ ws_11)) (ci := 11) (q0 := 0) hP hK hD hS hA hX rfl rfl) rfl rfl hl.1 rfl (lv_room (Nat.le_of_ble_eq_true rfl)) dX11_reasonNow_56 ⟨Nat.le_of_ble_eq_true rfl, Nat.le_of_ble_eq_true rfl⟩) hP hD hS hA (fun r_13 u H locs hw_14 hP hD hS => ?_)
        obtain ⟨ws_15, rfl⟩ : ∃ z, z = u := ⟨_, rfl⟩
        obtain ⟨hT, rfl⟩ := hw_14
        have hP : va_P D vwCl ([(mo, .inr (11, [.ref mw, .ref ma, .ref mf, .ref m0, .ref m1, .ref mu, .ref mv, .ref u0, .ref u1, .ref iz, .int th, .ref mb, .int mn, .int mpt, .int mbg, .int mwr, .int mwk, .int mlf, .int men])), (mw, .inl (ct 0, 958, .inl f))] ++ ws_15) H := hP
        have hD : va_D A ([(mo, .inr (11, [.ref mw, .ref ma, .ref mf, .ref m0, .ref m1, .ref mu, .ref mv, .ref u0, .ref u1, .ref iz, .int th, .ref mb, .int mn, .int mpt, .int mbg, .int mwr, .int mwk, .int mlf, .int men])), (mw, .inl (ct 0, 958, .inl f))] ++ ws_15) := hD
        refine lv_sipush (v := 20000) hx hb dX11_reasonNow_59 (by decide) ?_
        refine lv_icmp_lt (tgt := 77) hx hb dX11_reasonNow_62 (by decide) (fun hc_16 => ?_) (fun hc_16 => ?_)
        · refine lv_iconst (v := 0) hx hb dX11_reasonNow_77 (by decide) ?_
          exact W.iret (v := 0) hx hb hr (fun t ht hW => ⟨⟨0, ws_15, rfl, hT, by rw [ht]; exact hP, by rw [hAe]; exact hD⟩, hS.F ht⟩) hS.2.2 dX11_reasonNow_78
        · refine lv_aload_n hx hb dX11_reasonNow_65 rfl (lv_at hl 0 rfl) ?_
          refine lv_iload_n hx hb dX11_reasonNow_66 rfl (lv_at hl 1 rfl) ?_
          refine ty_ki (wr := []) (wc := ([(mo, .inr (11, [.ref mw, .ref ma, .ref mf, .ref m0, .ref m1, .ref mu, .ref mv, .ref u0, .ref u1, .ref iz, .int th, .ref mb, .int mn, .int mpt, .int mbg, .int mwr, .int mwk, .int mlf, .int men])), (mw, .inl (ct 0, 958, .inl f))] ++ ws_15)) (va_runV (As := [.int p1]) (rest := []) ⟨hx, hb, hml, hown, hts⟩ (m_X11_isOver l D ct S ws_15 mo mw ma mf m0 m1 mu mv u0 u1 iz mb th mn mpt mbg mwr mwk mlf men f G cx p1 _ hT h_mu h_mv h_u0 h_u1 hR hc ho) (cm_V 1 hts kc_X11_isOver ki_RX11 kl_RX11_258 kv_X11_isOver kx_X11_isOver kd_X11_isOver ⟨Nat.le_of_ble_eq_true rfl, Nat.le_of_ble_eq_true rfl⟩) (ty_preE (wr := []) (wc := ([(mo, .inr (11, [.ref mw, .ref ma, .ref mf, .ref m0, .ref m1, .ref mu, .ref mv, .ref u0, .ref u1, .ref iz, .int th, .ref mb, .int mn, .int mpt, .int mbg, .int mwr, .int mwk, .int mlf, .int men])), (mw, .inl (ct 0, 958, .inl f))] ++ ws_15)) (ci := 11) (q0 := 0) hP hK hD hS hA hX rfl rfl) rfl rfl hl.1 rfl (lv_room (Nat.le_of_ble_eq_true rfl)) dX11_reasonNow_67 ⟨Nat.le_of_ble_eq_true rfl, Nat.le_of_ble_eq_true rfl⟩) hP hD hS hA (fun r_17 u H locs hw_18 hP hD hS => ?_)
          obtain ⟨ws_19, rfl⟩ : ∃ z, z = u := ⟨_, rfl⟩
          have hT := hw_18
          have hP : va_P D vwCl ([(mo, .inr (11, [.ref mw, .ref ma, .ref mf, .ref m0, .ref m1, .ref mu, .ref mv, .ref u0, .ref u1, .ref iz, .int th, .ref mb, .int mn, .int mpt, .int mbg, .int mwr, .int mwk, .int mlf, .int men])), (mw, .inl (ct 0, 958, .inl f))] ++ ws_19) H := hP
          have hD : va_D A ([(mo, .inr (11, [.ref mw, .ref ma, .ref mf, .ref m0, .ref m1, .ref mu, .ref mv, .ref u0, .ref u1, .ref iz, .int th, .ref mb, .int mn, .int mpt, .int mbg, .int mwr, .int mwk, .int mlf, .int men])), (mw, .inl (ct 0, 958, .inl f))] ++ ws_19) := hD
          refine lv_if_ne (tgt := 77) hx hb dX11_reasonNow_70 (by decide) (fun hc_20 => ?_) (fun hc_20 => ?_)
          · refine lv_iconst (v := 0) hx hb dX11_reasonNow_77 (by decide) ?_
            exact W.iret (v := 0) hx hb hr (fun t ht hW => ⟨⟨0, ws_19, rfl, hT, by rw [ht]; exact hP, by rw [hAe]; exact hD⟩, hS.F ht⟩) hS.2.2 dX11_reasonNow_78
          · refine lv_iconst (v := 4) hx hb dX11_reasonNow_73 (by decide) ?_
            refine lv_goto (tgt := 78) hx hb dX11_reasonNow_74 (by decide) ?_
            exact W.iret (v := 4) hx hb hr (fun t ht hW => ⟨⟨4, ws_19, rfl, hT, by rw [ht]; exact hP, by rw [hAe]; exact hD⟩, hS.F ht⟩) hS.2.2 dX11_reasonNow_78
      · refine lv_iconst (v := 3) hx hb dX11_reasonNow_51 (by decide) ?_
        exact W.iret (v := 3) hx hb hr (fun t ht hW => ⟨⟨3, ws_11, rfl, hT, by rw [ht]; exact hP, by rw [hAe]; exact hD⟩, hS.F ht⟩) hS.2.2 dX11_reasonNow_52
    · refine lv_iconst (v := 2) hx hb dX11_reasonNow_32 (by decide) ?_
      exact W.iret (v := 2) hx hb hr (fun t ht hW => ⟨⟨2, ws_7, rfl, hT, by rw [ht]; exact hP, by rw [hAe]; exact hD⟩, hS.F ht⟩) hS.2.2 dX11_reasonNow_33
  · refine lv_iconst (v := 1) hx hb dX11_reasonNow_15 (by decide) ?_
    exact W.iret (v := 1) hx hb hr (fun t ht hW => ⟨⟨1, ws_3, rfl, hT, by rw [ht]; exact hP, by rw [hAe]; exact hD⟩, hS.F ht⟩) hS.2.2 dX11_reasonNow_16
