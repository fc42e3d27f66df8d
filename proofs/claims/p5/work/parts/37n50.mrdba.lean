theorem rf_Ls {g : Nat → Int32} (h : rf_L g) : (0 ≤ (g 9).toInt ∧ (g 9).toInt ≤ 6) ∧ (0 ≤ (g 10).toInt ∧ (g 10).toInt ≤ 4) ∧ 0 ≤ (g 11).toInt ∧ (g 11).toInt ≤ 4 := ⟨h.1.2.2.1, h.1.2.2.2.1, h.1.2.2.2.2.1⟩
theorem rf_n4b {x : Int32} (h : 0 ≤ x.toInt ∧ x.toInt ≤ 4) (h4 : ¬ x = 4) : x.toInt < 4 := by
  have := rf_ne9 (K := 4) h4 (by decide)
  omega
theorem rf_n6 {x : Int32} (h : 0 ≤ x.toInt ∧ x.toInt ≤ 6) (h6 : ¬ x = 6) : x.toInt < 6 := by
  have := rf_ne9 (K := 6) h6 (by decide)
  omega
theorem rf_c8 {g : Nat → Int32} {n : Int32} (h : rf_L g) (h4 : ¬ g 11 = 4) (hn : 0 ≤ n.toInt ∧ n.toInt ≤ 11) (h11 : ¬ n = 11) : (((20 + (19 * (g 11))) + 8) + n).toInt = 28 + 19 * (g 11).toInt + n.toInt ∧ (0 ≤ (g 11).toInt ∧ (g 11).toInt < 4) ∧ 0 ≤ n.toInt ∧ n.toInt ≤ 10 := by
  have a := (rf_Ls h).2.2
  have b := rf_n4b a h4
  have c := rf_ne9 (K := 11) h11 (by decide)
  have e40 := rf_mk9 (a := 20) (b := 19) (k := (g 11)) (A := 20) (B := 19) (by decide) (by decide) (by omega) (by omega) (by omega)
  have e41 := rf_pk (x := (20 + (19 * (g 11)))) (k := 8) (K := 8) (by decide) (by omega) (by omega)
  have e42 := rf_pk (x := ((20 + (19 * (g 11))) + 8)) (k := n) (K := n.toInt) rfl (by omega) (by omega)
  omega
theorem rf_c7 {g : Nat → Int32} (h : rf_L g) (h4 : ¬ g 11 = 4) : ((20 + (19 * (g 11))) + 7).toInt = 27 + 19 * (g 11).toInt ∧ (20 + (19 * (g 11))).toInt = 20 + 19 * (g 11).toInt ∧ 0 ≤ (g 11).toInt ∧ (g 11).toInt < 4 := by
  have a := (rf_Ls h).2.2
  have b := rf_n4b a h4
  have e40 := rf_mk9 (a := 20) (b := 19) (k := (g 11)) (A := 20) (B := 19) (by decide) (by decide) (by omega) (by omega) (by omega)
  have e41 := rf_pk (x := (20 + (19 * (g 11)))) (k := 7) (K := 7) (by decide) (by omega) (by omega)
  omega
theorem rf_ngt6 {y : Int32} (h : ¬ 6 < y) : y.toInt ≤ 6 := rf_le6 h
theorem rm_cv9 {g c : Nat → Int32} {n v x : Int32} {j : Nat} (h : rf_La g c) (hx : 20 ≤ x.toInt) (hj : j < 20) (h11 : ¬ j = 11) : (upd (upd c x.toNatClampNeg n) (11 : Int32).toNatClampNeg v) j = g j := by
  have ex : x.toNatClampNeg = x.toInt.toNat := rfl
  have e0 : (11 : Int32).toNatClampNeg = 11 := by decide
  rw [e0, rf_upd_ne h11, rf_upd_ne (by omega)]
  exact h.2 j hj
set_option maxRecDepth 100000 in
set_option maxHeartbeats 4000000 in
theorem m_X11_readName (l : Launch) (D : va_G) (ct : Nat → ClassId) (S : ty_S) (ws : va_W) (ph : va_W → Prop) (xx : Nat → Nat → Nat → Prop) (mo : Nat) (mw : Nat) (ma : Nat) (mf : Nat) (m0 : Nat) (m1 : Nat) (mu : Nat) (mv : Nat) (u0 : Nat) (u1 : Nat) (iz : Nat) (mb : Nat) (th : Int32) (mn : Int32) (mpt : Int32) (mbg : Int32) (mwr : Int32) (mlf : Int32) (men : Int32) (b : Nat → Int32) (p1 : Int32) (g : Nat → Int32) (N : List (List Int32)) (sz : Nat) (hT : ty_V ct S ph ws) (hph : ty_C ph xx) (hy1 : ty_y1 xx) (hmn : 0 ≤ mn.toInt ∧ mn.toInt ≤ 800) (hpt : 0 ≤ mpt.toInt ∧ mpt.toInt ≤ mn.toInt) (hL : rf_L g) (hn4 : (g 11).toInt < 4) (hpl : p1.toInt = 20 + 19 * (g 11).toInt) (hN : rm_N N g) : Met l yX11_readName (ws_ yX11_readName cX11_readName 4 (some .boolean)) ({ frames := 4, cells := 0, slots := 0, locals := 87 } : Room) (va_Pc [.ref mo, .int p1] (cmP D ct sz ([(rf_MO mo mw ma mf m0 m1 mu mv u0 u1 iz th mb mn mpt mbg mwr (0) mlf men), (rf_RW ct 0 mb 800 b), (rf_RW ct 0 mf 958 g)] ++ ws))) (va_Qi (fun (r : Int32) (u : va_W × Int32 × Int32 × Int32 × Int32 × (Nat → Int32)) => match u with | (u9, mpt1, mbg1, mwr1, mwk1, g1) => ty_V ct S ph u9 ∧ ((mpt.toInt ≤ mpt1.toInt ∧ mpt1.toInt ≤ mn.toInt) ∧ 0 ≤ mbg1.toInt ∧ mbg1.toInt ≤ mn.toInt) ∧ ((r = 0 ∧ rm_f (rp_nk b mn N (rp_sk b mn mpt)) (rp_sk b mn mpt) mwk1 mwr1) ∨ (r = 1 ∧ (rp_nk b mn N (rp_sk b mn mpt)) = 0 ∧ mwk1 = 0 ∧ mpt1 = rp_we b mn (rp_sk b mn mpt) ∧ rf_La g g1 ∧ (∀ j : Nat, 20 ≤ j → j < 20 + 19 * (g 11).toInt.toNat → g1 j = g j) ∧ rm_W g1 (g 11).toInt.toNat (rp_w b mn (rp_sk b mn mpt)) ∧ g1 = rq_nm b (rp_sk b mn mpt) (20 + 19 * (g 11).toInt.toNat) ((rp_we b mn (rp_sk b mn mpt)) - (rp_sk b mn mpt)) g ((rp_we b mn (rp_sk b mn mpt)) - (rp_sk b mn mpt)).toInt.toNat))) (cmB D ([(rf_MO mo mw ma mf m0 m1 mu mv u0 u1 iz th mb mn mpt mbg mwr (0) mlf men), (rf_RW ct 0 mb 800 b), (rf_RW ct 0 mf 958 g)] ++ ws) sz (fun (u : va_W × Int32 × Int32 × Int32 × Int32 × (Nat → Int32)) => match u with | (u9, mpt1, mbg1, mwr1, mwk1, g1) => ([(rf_MO mo mw ma mf m0 m1 mu mv u0 u1 iz th mb mn mpt1 mbg1 mwr1 mwk1 mlf men), (rf_RW ct 0 mb 800 b), (rf_RW ct 0 mf 958 g1)] ++ u9))) (va_A ([(rf_MO mo mw ma mf m0 m1 mu mv u0 u1 iz th mb mn mpt mbg mwr (0) mlf men), (rf_RW ct 0 mb 800 b), (rf_RW ct 0 mf 958 g)] ++ ws) sz)) 0 0 (va_A ([(rf_MO mo mw ma mf m0 m1 mu mv u0 u1 iz th mb mn mpt mbg mwr (0) mlf men), (rf_RW ct 0 mb 800 b), (rf_RW ct 0 mf 958 g)] ++ ws) sz) := by
  refine Met.ofW (cc := cX11_readName) (maxL := 4) (ret := (some .boolean)) (by decide) rfl ?_
  intro p e s m args below meth c s₁ B hml hv
  obtain ⟨rfl, hsz, hP, hK, hD0, hX⟩ := hv
  have hx := B.exec
  have hb := B.bytes
  have hr := B.returns
  have hts := ws_all (atoms_spec (ws := ws_ yX11_readName cX11_readName 4 (some .boolean)) B.pre)
  have hown : s.vm.findClass RX11 = some m.cls := findClass_of_methodNamed B.named
  have hlocks := B.notSynchronized
  subst hsz
  have hD := hD0.self (sz := s.heap.size)
  generalize hAe : va_A ([(rf_MO mo mw ma mf m0 m1 mu mv u0 u1 iz th mb mn mpt mbg mwr (0) mlf men), (rf_RW ct 0 mb 800 b), (rf_RW ct 0 mf 958 g)] ++ ws) s.heap.size = A at hD hX ⊢
  have hA : ∀ q : Nat, s.heap.size ≤ q → A q := fun q h => by rw [← hAe]; exact Or.inr h
  have hS : va_S A s.heap s.heap [] := va_S.rf
  have hl := lv_entry ([.ref mo, .int p1]) (n := 4) (Nat.le_of_ble_eq_true rfl)
  rw [lg_entry_eq]
  generalize (lg_sl ([.ref mo, .int p1]) ++ List.replicate (4 - (lg_sl ([.ref mo, .int p1])).length) Slot.unset).toArray = ls at hl ⊢
  have hl : lv_has ls 4 [(0, .ref mo), (1, .int p1)] := hl
  refine lv_aload_n hx hb dX11_readName_0 rfl (lv_at hl 0 rfl) ?_
  obtain ⟨hP, hD⟩ := ty_opPD (E1 := [(rf_RW ct 0 mf 958 g)]) (E2 := [(rf_MO mo mw ma mf m0 m1 mu mv u0 u1 iz th mb mn mpt mbg mwr (0) mlf men), (rf_RW ct 0 mb 800 b)]) (n := 3) [2, 0, 1] hP hD rfl rfl (by decide +kernel) ty_mva
  refine ty_Ki hP hD hS hA (va_runV (As := []) (rest := []) ⟨hx, hb, hml, hown, hts⟩ (m_X11_see l D ct S ws ph xx mo mw ma mf m0 m1 mu mv u0 u1 iz mb th mn mpt mbg mwr (0 : Int32) mlf men b _ hT hph hy1 hmn (by omega)) (cm_V 0 hts kc_X11_see ki_RX11 kl_RX11_106 kv_X11_see kx_X11_see kd_X11_see ⟨Nat.le_of_ble_eq_true rfl, Nat.le_of_ble_eq_true rfl⟩) (ty_preE (ci := 11) (q0 := 1) hP hK hD hS hA hX rfl rfl) rfl rfl hl.1 rfl (lv_room (Nat.le_of_ble_eq_true rfl)) dX11_readName_1 ⟨Nat.le_of_ble_eq_true rfl, Nat.le_of_ble_eq_true rfl⟩) (fun r_1 u H locs hw_2 hP hD hS => ?_)
  obtain ⟨ws_3, rfl⟩ : ∃ z, z = u := ⟨_, rfl⟩
  obtain ⟨hT, rfl⟩ := hw_2
  obtain ⟨hP, hD⟩ := ty_shPD (w2 := ([(rf_RW ct 0 mf 958 g), (rf_MO mo mw ma mf m0 m1 mu mv u0 u1 iz th mb mn (rp_sk b mn mpt) (rp_sk b mn mpt) mwr (0) mlf men), (rf_RW ct 0 mb 800 b)] ++ ws_3)) hP hD rfl
  have hs_4 := rp_sk_b (b := b) (p := mpt) hmn.2 (by omega)
  refine lv_pop hx hb dX11_readName_4 rfl ?_
  refine lv_aload_n hx hb dX11_readName_5 rfl (lv_at hl 0 rfl) ?_
  refine lv_aload_n hx hb dX11_readName_6 rfl (lv_at hl 0 rfl) ?_
  refine va_get (v := .int (rp_sk b mn mpt)) (D := D) (ci := 11) (C := RX11) (T := TX11) (N := 19) hx hb hts in_X11 hown hK hP 1 rfl rfl 14 (by decide) (hts _ kl_RX11_81) (fun _ h9 => h9) rfl dX11_readName_7 ?_
  obtain ⟨hP, hD⟩ := ty_ipPD (E1 := [(rf_RW ct 0 mf 958 g)]) (E2 := [(rf_MO mo mw ma mf m0 m1 mu mv u0 u1 iz th mb mn (rp_sk b mn mpt) (rp_sk b mn mpt) mwr (0) mlf men), (rf_RW ct 0 mb 800 b)]) hP hD rfl ty_mva
  refine ty_Ki hP hD hS hA (va_runV (As := [.int (rp_sk b mn mpt)]) (rest := []) ⟨hx, hb, hml, hown, hts⟩ (m_X11_isLetter l D ct S ws_3 ph xx mo mw ma mf m0 m1 mu mv u0 u1 iz mb th mn (rp_sk b mn mpt) (rp_sk b mn mpt) mwr (0 : Int32) mlf men b (rp_sk b mn mpt) _ hT hph hy1 hmn (by omega)) (cm_V 1 hts kc_X11_isLetter ki_RX11 kl_RX11_90 kv_X11_isLetter kx_X11_isLetter kd_X11_isLetter ⟨Nat.le_of_ble_eq_true rfl, Nat.le_of_ble_eq_true rfl⟩) (ty_preE (ci := 11) (q0 := 1) hP hK hD hS hA hX rfl rfl) rfl rfl hl.1 rfl (lv_room (Nat.le_of_ble_eq_true rfl)) dX11_readName_10 ⟨Nat.le_of_ble_eq_true rfl, Nat.le_of_ble_eq_true rfl⟩) (fun r_5 u H locs hw_6 hP hD hS => ?_)
  obtain ⟨ws_7, rfl⟩ : ∃ z, z = u := ⟨_, rfl⟩
  obtain ⟨hT, rfl⟩ := hw_6
  obtain ⟨hP, hD⟩ := ty_shPD (w2 := ([(rf_RW ct 0 mf 958 g), (rf_MO mo mw ma mf m0 m1 mu mv u0 u1 iz th mb mn (rp_sk b mn mpt) (rp_sk b mn mpt) mwr (0) mlf men), (rf_RW ct 0 mb 800 b)] ++ ws_7)) hP hD rfl
  refine lv_if_ne (tgt := 22) hx hb dX11_readName_13 (by decide) (fun hc_8 => ?_) (fun hc_8 => ?_)
  · refine lv_aload_n hx hb dX11_readName_22 rfl (lv_at hl 0 rfl) ?_
    obtain ⟨hP, hD⟩ := ty_ipPD (E1 := [(rf_RW ct 0 mf 958 g)]) (E2 := [(rf_MO mo mw ma mf m0 m1 mu mv u0 u1 iz th mb mn (rp_sk b mn mpt) (rp_sk b mn mpt) mwr (0) mlf men), (rf_RW ct 0 mb 800 b)]) hP hD rfl ty_mva
    refine ty_Ki hP hD hS hA (va_runV (As := []) (rest := []) ⟨hx, hb, hml, hown, hts⟩ (m_X11_wordEnd l D ct S ws_7 ph xx mo mw ma mf m0 m1 mu mv u0 u1 iz mb th mn (rp_sk b mn mpt) (rp_sk b mn mpt) mwr (0 : Int32) mlf men b _ hT hph hy1 hmn (by omega)) (cm_V 0 hts kc_X11_wordEnd ki_RX11 kl_RX11_94 kv_X11_wordEnd kx_X11_wordEnd kd_X11_wordEnd ⟨Nat.le_of_ble_eq_true rfl, Nat.le_of_ble_eq_true rfl⟩) (ty_preE (ci := 11) (q0 := 1) hP hK hD hS hA hX rfl rfl) rfl rfl hl.1 rfl (lv_room (Nat.le_of_ble_eq_true rfl)) dX11_readName_23 ⟨Nat.le_of_ble_eq_true rfl, Nat.le_of_ble_eq_true rfl⟩) (fun r_9 u H locs hw_10 hP hD hS => ?_)
    obtain ⟨ws_11, rfl⟩ : ∃ z, z = u := ⟨_, rfl⟩
    obtain ⟨hT, rfl⟩ := hw_10
    obtain ⟨hP, hD⟩ := ty_shPD (w2 := ([(rf_RW ct 0 mf 958 g), (rf_MO mo mw ma mf m0 m1 mu mv u0 u1 iz th mb mn (rp_sk b mn mpt) (rp_sk b mn mpt) mwr (0) mlf men), (rf_RW ct 0 mb 800 b)] ++ ws_11)) hP hD rfl
    have hwe := rp_we_b (b := b) (p := (rp_sk b mn mpt)) hmn.2 (by omega)
    have hsz := rm_sz (b := b) (n := mn) (q := (rp_sk b mn mpt)) (by omega)
    refine lv_aload_n hx hb dX11_readName_26 rfl (lv_at hl 0 rfl) ?_
    refine va_get (v := .int (rp_sk b mn mpt)) (D := D) (ci := 11) (C := RX11) (T := TX11) (N := 19) hx hb hts in_X11 hown hK hP 1 rfl rfl 14 (by decide) (hts _ kl_RX11_81) (fun _ h9 => h9) rfl dX11_readName_27 ?_
    refine lv_isub hx hb dX11_readName_30 ?_
    refine lv_istore_n (lv' := [(2, .int ((rp_we b mn (rp_sk b mn mpt)) - (rp_sk b mn mpt))), (0, .ref mo), (1, .int p1)]) hx hb dX11_readName_31 rfl hl (by decide) rfl (fun ls hl => ?_)
    refine lv_iload_n hx hb dX11_readName_32 rfl (lv_at hl 0 rfl) ?_
    refine lv_bipush (v := 6) hx hb dX11_readName_33 (by decide) ?_
    refine lv_icmp_gt (tgt := 55) hx hb dX11_readName_35 (by decide) (fun hc_12 => ?_) (fun hc_12 => ?_)
    · refine lv_aload_n hx hb dX11_readName_55 rfl (lv_at hl 1 rfl) ?_
      refine lv_iconst (v := 3) hx hb dX11_readName_56 (by decide) ?_
      obtain ⟨hP, hD⟩ := ty_opPD (E1 := [(rf_RW ct 0 mf 958 g), (rf_RW ct 0 mb 800 b)]) (E2 := [(rf_MO mo mw ma mf m0 m1 mu mv u0 u1 iz th mb mn (rp_sk b mn mpt) (rp_sk b mn mpt) mwr (0) mlf men)]) (n := 3) [0, 2, 1] hP hD rfl rfl (by decide +kernel) ty_mva
      refine ty_Ki hP hD hS hA (va_runV (As := [.int 3]) (rest := []) ⟨hx, hb, hml, hown, hts⟩ (m_X11_fails l D ct S ws_11 ph xx mo mw ma mf m0 m1 mu mv u0 u1 iz mb th mn (rp_sk b mn mpt) (rp_sk b mn mpt) mwr mlf men (3 : Int32) _ hT hph hy1) (cm_V 1 hts kc_X11_fails ki_RX11 kl_RX11_112 kv_X11_fails kx_X11_fails kd_X11_fails ⟨Nat.le_of_ble_eq_true rfl, Nat.le_of_ble_eq_true rfl⟩) (ty_preE (ci := 11) (q0 := 2) hP hK hD hS hA hX rfl rfl) rfl rfl hl.1 rfl (lv_room (Nat.le_of_ble_eq_true rfl)) dX11_readName_57 ⟨Nat.le_of_ble_eq_true rfl, Nat.le_of_ble_eq_true rfl⟩) (fun r_13 u H locs hw_14 hP hD hS => ?_)
      obtain ⟨ws_15, rfl⟩ : ∃ z, z = u := ⟨_, rfl⟩
      obtain ⟨hT, rfl⟩ := hw_14
      obtain ⟨hP, hD⟩ := ty_shPD (w2 := ([(rf_RW ct 0 mf 958 g), (rf_RW ct 0 mb 800 b), (rf_MO mo mw ma mf m0 m1 mu mv u0 u1 iz th mb mn (rp_sk b mn mpt) (rp_sk b mn mpt) (rp_sk b mn mpt) (3) mlf men)] ++ ws_15)) hP hD rfl
      obtain ⟨hP, hD⟩ := ty_ordPD (E2 := [(rf_MO mo mw ma mf m0 m1 mu mv u0 u1 iz th mb mn (rp_sk b mn mpt) (rp_sk b mn mpt) (rp_sk b mn mpt) (3) mlf men), (rf_RW ct 0 mb 800 b), (rf_RW ct 0 mf 958 g)]) (n := 3) [2, 1, 0] hP hD rfl rfl (by decide +kernel)
      exact W.zret (v := 0) hx hb hr (by decide) (fun t ht hW => ⟨⟨0, (ws_15, (rp_sk b mn mpt), (rp_sk b mn mpt), (rp_sk b mn mpt), (3 : Int32), g), rfl, ⟨hT, ⟨by omega, Or.inl ⟨rfl, rm_nk3 (rm_let hc_8) (Or.inl (by have := rm_gt6 hc_12; omega))⟩⟩⟩, by rw [ht]; exact hP, by rw [hAe]; exact hD⟩, hS.F ht⟩) hS.2.2 dX11_readName_60
    · refine lv_aload_n hx hb dX11_readName_38 rfl (lv_at hl 1 rfl) ?_
      refine lv_aload_n hx hb dX11_readName_39 rfl (lv_at hl 1 rfl) ?_
      refine va_get (v := .ref mf) (D := D) (ci := 11) (C := RX11) (T := TX11) (N := 19) hx hb hts in_X11 hown hK hP 1 rfl rfl 2 (by decide) (hts _ kl_RX11_16) (fun _ h9 => h9) rfl dX11_readName_40 ?_
      refine lv_aload_n hx hb dX11_readName_43 rfl (lv_at hl 1 rfl) ?_
      refine va_get (v := .int (rp_sk b mn mpt)) (D := D) (ci := 11) (C := RX11) (T := TX11) (N := 19) hx hb hts in_X11 hown hK hP 1 rfl rfl 14 (by decide) (hts _ kl_RX11_81) (fun _ h9 => h9) rfl dX11_readName_44 ?_
      refine lv_iload_n hx hb dX11_readName_47 rfl (lv_at hl 0 rfl) ?_
      obtain ⟨hP, hD⟩ := ty_opPD (E1 := []) (E2 := [(rf_MO mo mw ma mf m0 m1 mu mv u0 u1 iz th mb mn (rp_sk b mn mpt) (rp_sk b mn mpt) mwr (0) mlf men), (rf_RW ct 0 mb 800 b), (rf_RW ct 0 mf 958 g)]) (n := 3) [1, 2, 0] hP hD rfl rfl (by decide +kernel) ty_mva
      refine ty_Ki hP hD hS hA (va_runV (As := [.ref mf, .int (rp_sk b mn mpt), .int ((rp_we b mn (rp_sk b mn mpt)) - (rp_sk b mn mpt))]) (rest := []) ⟨hx, hb, hml, hown, hts⟩ (m_named_v l D ct S ws_11 ph xx mo mw ma mf m0 m1 mu mv u0 u1 iz mb th mn (rp_sk b mn mpt) (rp_sk b mn mpt) mwr (0 : Int32) mlf men b mf (rp_sk b mn mpt) ((rp_we b mn (rp_sk b mn mpt)) - (rp_sk b mn mpt)) g N _ hT hph hy1 (rf_Ls hL).2.2 (by omega) hN) (cm_V 3 hts kc_X11_named ki_RX11 kl_RX11_129 kv_X11_named kx_X11_named kd_X11_named ⟨Nat.le_of_ble_eq_true rfl, Nat.le_of_ble_eq_true rfl⟩) (ty_preE (ci := 11) (q0 := 0) hP hK hD hS hA hX rfl rfl) rfl rfl hl.1 rfl (lv_room (Nat.le_of_ble_eq_true rfl)) dX11_readName_48 ⟨Nat.le_of_ble_eq_true rfl, Nat.le_of_ble_eq_true rfl⟩) (fun r_16 u H locs hw_17 hP hD hS => ?_)
      obtain ⟨ws_18, rfl⟩ : ∃ z, z = u := ⟨_, rfl⟩
      obtain ⟨hT, hp_19⟩ := hw_17
      have hp_19 : ((r_16 = -1 ∧ ¬ (rm_w b (rp_sk b mn mpt) ((rp_we b mn (rp_sk b mn mpt)) - (rp_sk b mn mpt))) ∈ N) ∨ ((0 ≤ r_16.toInt ∧ r_16.toInt < N.length) ∧ (rm_w b (rp_sk b mn mpt) ((rp_we b mn (rp_sk b mn mpt)) - (rp_sk b mn mpt))) ∈ N)) ∧ r_16 = rq_ix N (rm_w b (rp_sk b mn mpt) ((rp_we b mn (rp_sk b mn mpt)) - (rp_sk b mn mpt))) N.length := hp_19
      obtain ⟨hP, hD⟩ := ty_shPD (w2 := ([(rf_MO mo mw ma mf m0 m1 mu mv u0 u1 iz th mb mn (rp_sk b mn mpt) (rp_sk b mn mpt) mwr (0) mlf men), (rf_RW ct 0 mb 800 b), (rf_RW ct 0 mf 958 g)] ++ ws_18)) hP hD rfl
      have hnd_20 := hp_19.1
      have hww := rm_ww (b := b) (n := mn) (p := (rp_sk b mn mpt)) (m := ((rp_we b mn (rp_sk b mn mpt)) - (rp_sk b mn mpt))) hsz.1
      rw [hww] at hnd_20
      refine lv_iconst (v := (-1)) hx hb dX11_readName_51 (by decide) ?_
      refine lv_icmp_eq (tgt := 61) hx hb dX11_readName_52 (by decide) (fun hc_21 => ?_) (fun hc_21 => ?_)
      · refine lv_aload_n hx hb dX11_readName_61 rfl (lv_at hl 1 rfl) ?_
        refine va_get (v := .ref mf) (D := D) (ci := 11) (C := RX11) (T := TX11) (N := 19) hx hb hts in_X11 hown hK hP 0 rfl rfl 2 (by decide) (hts _ kl_RX11_16) (fun _ h9 => h9) rfl dX11_readName_62 ?_
        refine lv_iload_n hx hb dX11_readName_65 rfl (lv_at hl 2 rfl) ?_
        refine lv_iload_n hx hb dX11_readName_66 rfl (lv_at hl 0 rfl) ?_
        refine va_iast hx hb hK hP hD hS 2 0 rfl rfl (rf_vin (by have := (rf_Ls hL).2.2; omega)) dX11_readName_67 (fun H locs hP hD hS => ?_)
        have hP : va_P D vwCl ([(rf_MO mo mw ma mf m0 m1 mu mv u0 u1 iz th mb mn (rp_sk b mn mpt) (rp_sk b mn mpt) mwr (0) mlf men), (rf_RW ct 0 mb 800 b), (rf_RW ct 0 mf 958 (upd g p1.toNatClampNeg ((rp_we b mn (rp_sk b mn mpt)) - (rp_sk b mn mpt))))] ++ ws_18) H := hP
        have hD : va_D A ([(rf_MO mo mw ma mf m0 m1 mu mv u0 u1 iz th mb mn (rp_sk b mn mpt) (rp_sk b mn mpt) mwr (0) mlf men), (rf_RW ct 0 mb 800 b), (rf_RW ct 0 mf 958 (upd g p1.toNatClampNeg ((rp_we b mn (rp_sk b mn mpt)) - (rp_sk b mn mpt))))] ++ ws_18) := hD
        refine lv_iconst (v := 0) hx hb dX11_readName_68 (by decide) ?_
        refine lv_istore_n (lv' := [(3, .int 0), (2, .int ((rp_we b mn (rp_sk b mn mpt)) - (rp_sk b mn mpt))), (0, .ref mo), (1, .int p1)]) hx hb dX11_readName_69 rfl hl (by decide) rfl (fun ls hl => ?_)
        refine ty_loop (I := fun μ H locs ls => ∃ (ws : va_W) (y_22 : Int32) (g_23 : Nat → Int32), μ = (2147483648 - y_22.toInt).toNat ∧ ty_V ct S ph ws ∧ va_P D vwCl ([(rf_MO mo mw ma mf m0 m1 mu mv u0 u1 iz th mb mn (rp_sk b mn mpt) (rp_sk b mn mpt) mwr (0) mlf men), (rf_RW ct 0 mb 800 b), (rf_RW ct 0 mf 958 g_23)] ++ ws) H ∧ va_D A ([(rf_MO mo mw ma mf m0 m1 mu mv u0 u1 iz th mb mn (rp_sk b mn mpt) (rp_sk b mn mpt) mwr (0) mlf men), (rf_RW ct 0 mb 800 b), (rf_RW ct 0 mf 958 g_23)] ++ ws) ∧ va_S A s.heap H locs ∧ lv_has ls 4 [(0, .ref mo), (1, .int p1), (2, .int ((rp_we b mn (rp_sk b mn mpt)) - (rp_sk b mn mpt))), (3, .int y_22)] ∧ 0 ≤ y_22.toInt ∧ rf_La g g_23 ∧ rm_en b g g_23 (g 11).toInt.toNat (rp_sk b mn mpt) ((rp_we b mn (rp_sk b mn mpt)) - (rp_sk b mn mpt)) y_22 ∧ y_22.toInt ≤ ((rp_we b mn (rp_sk b mn mpt)) - (rp_sk b mn mpt)).toInt ∧ g_23 = rq_nm b (rp_sk b mn mpt) (20 + 19 * (g 11).toInt.toNat) ((rp_we b mn (rp_sk b mn mpt)) - (rp_sk b mn mpt)) g y_22.toInt.toNat) ⟨_, ws_18, (0 : Int32), (upd g p1.toNatClampNeg ((rp_we b mn (rp_sk b mn mpt)) - (rp_sk b mn mpt))), rfl, hT, hP, hD, hS, (lv_sub hl [2, 3, 1, 0] rfl), (by decide), rf_La1 (rf_La0 hL) (by have := (rf_Ls hL).2.2; omega), rm_en0 (by have := (rf_Ls hL).2.2; omega), (by have := hsz; rw [show (0 : Int32).toInt = 0 from by decide]; omega), rq_nm0 (by have := (rf_Ls hL).2.2; omega)⟩ (fun μ H locs ls hI ih_70 => ?_)
        obtain ⟨ws, y_22, g_23, rfl, hT, hP, hD, hS, hl, hex_70⟩ := hI
        refine lv_iload_n hx hb dX11_readName_70 rfl (lv_at hl 3 rfl) ?_
        refine lv_iload_n hx hb dX11_readName_71 rfl (lv_at hl 2 rfl) ?_
        refine lv_icmp_ge (tgt := 102) hx hb dX11_readName_72 (by decide) (fun hc_24 => ?_) (fun hc_24 => ?_)
        · refine lv_aload_n hx hb dX11_readName_102 rfl (lv_at hl 0 rfl) ?_
          obtain ⟨hP, hD⟩ := ty_opPD (E1 := [(rf_RW ct 0 mf 958 g_23)]) (E2 := [(rf_MO mo mw ma mf m0 m1 mu mv u0 u1 iz th mb mn (rp_sk b mn mpt) (rp_sk b mn mpt) mwr (0) mlf men), (rf_RW ct 0 mb 800 b)]) (n := 3) [2, 0, 1] hP hD rfl rfl (by decide +kernel) ty_mva
          refine ty_Ki hP hD hS hA (va_runV (As := []) (rest := []) ⟨hx, hb, hml, hown, hts⟩ (m_X11_passes l D ct S ws ph xx mo mw ma mf m0 m1 mu mv u0 u1 iz mb th mn (rp_sk b mn mpt) (rp_sk b mn mpt) mwr (0 : Int32) mlf men b _ hT hph hy1 hmn (by omega)) (cm_V 0 hts kc_X11_passes ki_RX11 kl_RX11_133 kv_X11_passes kx_X11_passes kd_X11_passes ⟨Nat.le_of_ble_eq_true rfl, Nat.le_of_ble_eq_true rfl⟩) (ty_preE (ci := 11) (q0 := 1) hP hK hD hS hA hX rfl rfl) rfl rfl hl.1 rfl (lv_room (Nat.le_of_ble_eq_true rfl)) dX11_readName_103 ⟨Nat.le_of_ble_eq_true rfl, Nat.le_of_ble_eq_true rfl⟩) (fun r_25 u H locs hw_26 hP hD hS => ?_)
          obtain ⟨ws_27, rfl⟩ : ∃ z, z = u := ⟨_, rfl⟩
          obtain ⟨hT, rfl⟩ := hw_26
          obtain ⟨hP, hD⟩ := ty_shPD (w2 := ([(rf_RW ct 0 mf 958 g_23), (rf_MO mo mw ma mf m0 m1 mu mv u0 u1 iz th mb mn (rp_we b mn (rp_sk b mn mpt)) (rp_sk b mn mpt) mwr (0) mlf men), (rf_RW ct 0 mb 800 b)] ++ ws_27)) hP hD rfl
          have hs_28 := rp_we_b (b := b) (p := (rp_sk b mn mpt)) hmn.2 (by omega)
          obtain ⟨hP, hD⟩ := ty_ordPD (E2 := [(rf_MO mo mw ma mf m0 m1 mu mv u0 u1 iz th mb mn (rp_we b mn (rp_sk b mn mpt)) (rp_sk b mn mpt) mwr (0) mlf men), (rf_RW ct 0 mb 800 b), (rf_RW ct 0 mf 958 g_23)]) (n := 3) [1, 2, 0] hP hD rfl rfl (by decide +kernel)
          exact W.zret (v := 1) hx hb hr (by decide) (fun t ht hW => ⟨⟨1, (ws_27, (rp_we b mn (rp_sk b mn mpt)), (rp_sk b mn mpt), mwr, (0 : Int32), g_23), rfl, ⟨hT, ⟨by omega, Or.inr ⟨rfl, rm_nk0 (rm_let hc_8) (fun z => z.elim (fun y => by have := rf_ngt6 hc_12; omega) (rm_m1 hnd_20 hc_21)), rfl, rfl, hex_70.2.1, (rm_ene hex_70.2.2.1 (Int32.le_iff_toInt_le.mp hc_24) hsz.1 (by omega)).1, (rm_ene hex_70.2.2.1 (Int32.le_iff_toInt_le.mp hc_24) hsz.1 (by omega)).2, (by have e9 := hex_70.2.2.2.2; rw [show y_22.toInt = ((rp_we b mn (rp_sk b mn mpt)) - (rp_sk b mn mpt)).toInt from by have := hex_70.2.2.2.1; have := Int32.le_iff_toInt_le.mp hc_24; omega] at e9; exact e9)⟩⟩⟩, by rw [ht]; exact hP, by rw [hAe]; exact hD⟩, hS.F ht⟩) hS.2.2 dX11_readName_106
        · refine lv_aload_n hx hb dX11_readName_75 rfl (lv_at hl 0 rfl) ?_
          refine va_get (v := .ref mf) (D := D) (ci := 11) (C := RX11) (T := TX11) (N := 19) hx hb hts in_X11 hown hK hP 0 rfl rfl 2 (by decide) (hts _ kl_RX11_16) (fun _ h9 => h9) rfl dX11_readName_76 ?_
          refine lv_iload_n hx hb dX11_readName_79 rfl (lv_at hl 1 rfl) ?_
          refine lv_iconst (v := 1) hx hb dX11_readName_80 (by decide) ?_
          refine lv_iadd hx hb dX11_readName_81 ?_
          refine lv_iload_n hx hb dX11_readName_82 rfl (lv_at hl 3 rfl) ?_
          refine lv_iadd hx hb dX11_readName_83 ?_
          refine lv_aload_n hx hb dX11_readName_84 rfl (lv_at hl 0 rfl) ?_
          refine va_get (v := .ref mb) (D := D) (ci := 11) (C := RX11) (T := TX11) (N := 19) hx hb hts in_X11 hown hK hP 0 rfl rfl 11 (by decide) (hts _ kl_RX11_42) (fun _ h9 => h9) rfl dX11_readName_85 ?_
          refine lv_aload_n hx hb dX11_readName_88 rfl (lv_at hl 0 rfl) ?_
          refine va_get (v := .int (rp_sk b mn mpt)) (D := D) (ci := 11) (C := RX11) (T := TX11) (N := 19) hx hb hts in_X11 hown hK hP 0 rfl rfl 14 (by decide) (hts _ kl_RX11_81) (fun _ h9 => h9) rfl dX11_readName_89 ?_
          refine lv_iload_n hx hb dX11_readName_92 rfl (lv_at hl 3 rfl) ?_
          refine lv_iadd hx hb dX11_readName_93 ?_
          refine va_iald hx hb hK hP 1 0 rfl rfl (rf_vin (by have := (rf_Ls hL).2.2; have := hex_70.1; have := rf_ngt6 hc_12; have := rf_lth hc_24; have e31 := rf_pk (x := p1) (k := 1) (K := 1) (by decide) (by omega) (by omega); have e32 := rf_pk (x := (p1 + 1)) (k := y_22) (K := y_22.toInt) rfl (by omega) (by omega); have e33 := rm_a9 (x := (rp_sk b mn mpt)) (k := y_22) (by omega) (by omega); omega)) dX11_readName_94 ?_
          refine va_iast hx hb hK hP hD hS 2 0 rfl rfl (rf_vin (by have := (rf_Ls hL).2.2; have := hex_70.1; have := rf_ngt6 hc_12; have := rf_lth hc_24; have e31 := rf_pk (x := p1) (k := 1) (K := 1) (by decide) (by omega) (by omega); have e32 := rf_pk (x := (p1 + 1)) (k := y_22) (K := y_22.toInt) rfl (by omega) (by omega); have e33 := rm_a9 (x := (rp_sk b mn mpt)) (k := y_22) (by omega) (by omega); omega)) dX11_readName_95 (fun H locs hP hD hS => ?_)
          have hP : va_P D vwCl ([(rf_MO mo mw ma mf m0 m1 mu mv u0 u1 iz th mb mn (rp_sk b mn mpt) (rp_sk b mn mpt) mwr (0) mlf men), (rf_RW ct 0 mb 800 b), (rf_RW ct 0 mf 958 (upd g_23 ((p1 + 1) + y_22).toNatClampNeg (b ((rp_sk b mn mpt) + y_22).toNatClampNeg)))] ++ ws) H := hP
          have hD : va_D A ([(rf_MO mo mw ma mf m0 m1 mu mv u0 u1 iz th mb mn (rp_sk b mn mpt) (rp_sk b mn mpt) mwr (0) mlf men), (rf_RW ct 0 mb 800 b), (rf_RW ct 0 mf 958 (upd g_23 ((p1 + 1) + y_22).toNatClampNeg (b ((rp_sk b mn mpt) + y_22).toNatClampNeg)))] ++ ws) := hD
          refine lv_iinc (v := (y_22 + Int32.ofInt 1)) (lv' := [(3, .int (y_22 + Int32.ofInt 1)), (0, .ref mo), (1, .int p1), (2, .int ((rp_we b mn (rp_sk b mn mpt)) - (rp_sk b mn mpt)))]) hx hb dX11_readName_96 hl (k := 3) rfl rfl (by decide) rfl (fun ls hl => ?_)
          refine lv_goto (tgt := 70) hx hb dX11_readName_99 (by decide) ?_
          exact ih_70 _ _ _ _ (ty_inc (cm_lt hc_24)) ⟨ws, (y_22 + Int32.ofInt 1), (upd g_23 ((p1 + 1) + y_22).toNatClampNeg (b ((rp_sk b mn mpt) + y_22).toNatClampNeg)), rfl, hT, hP, hD, hS, (lv_sub hl [1, 2, 3, 0] rfl), ty_nn hex_70.1 (cm_lt hc_24), rf_La1 hex_70.2.1 (by have := (rf_Ls hL).2.2; have := hex_70.1; have := rf_ngt6 hc_12; have := rf_lth hc_24; have e31 := rf_pk (x := p1) (k := 1) (K := 1) (by decide) (by omega) (by omega); have e32 := rf_pk (x := (p1 + 1)) (k := y_22) (K := y_22.toInt) rfl (by omega) (by omega); have e33 := rm_a9 (x := (rp_sk b mn mpt)) (k := y_22) (by omega) (by omega); omega), rm_ens hex_70.2.2.1 (by have := (rf_Ls hL).2.2; have := hex_70.1; have := rf_ngt6 hc_12; have := rf_lth hc_24; have e31 := rf_pk (x := p1) (k := 1) (K := 1) (by decide) (by omega) (by omega); have e32 := rf_pk (x := (p1 + 1)) (k := y_22) (K := y_22.toInt) rfl (by omega) (by omega); have e33 := rm_a9 (x := (rp_sk b mn mpt)) (k := y_22) (by omega) (by omega); omega) (by have := (rf_Ls hL).2.2; have := hex_70.1; have := rf_ngt6 hc_12; have := rf_lth hc_24; have e31 := rf_pk (x := p1) (k := 1) (K := 1) (by decide) (by omega) (by omega); have e32 := rf_pk (x := (p1 + 1)) (k := y_22) (K := y_22.toInt) rfl (by omega) (by omega); have e33 := rm_a9 (x := (rp_sk b mn mpt)) (k := y_22) (by omega) (by omega); omega) (by have := (rf_Ls hL).2.2; have := hex_70.1; have := rf_ngt6 hc_12; have := rf_lth hc_24; have e31 := rf_pk (x := p1) (k := 1) (K := 1) (by decide) (by omega) (by omega); have e32 := rf_pk (x := (p1 + 1)) (k := y_22) (K := y_22.toInt) rfl (by omega) (by omega); have e33 := rm_a9 (x := (rp_sk b mn mpt)) (k := y_22) (by omega) (by omega); omega) (by omega), (by have := (rf_Ls hL).2.2; have := hex_70.1; have := rf_ngt6 hc_12; have := rf_lth hc_24; have e31 := rf_pk (x := p1) (k := 1) (K := 1) (by decide) (by omega) (by omega); have e32 := rf_pk (x := (p1 + 1)) (k := y_22) (K := y_22.toInt) rfl (by omega) (by omega); have e33 := rm_a9 (x := (rp_sk b mn mpt)) (k := y_22) (by omega) (by omega); have := rf_oi (n := y_22) (by omega); omega), rq_nms hex_70.2.2.2.2 (by have := (rf_Ls hL).2.2; have := hex_70.1; have := rf_ngt6 hc_12; have := rf_lth hc_24; have e31 := rf_pk (x := p1) (k := 1) (K := 1) (by decide) (by omega) (by omega); have e32 := rf_pk (x := (p1 + 1)) (k := y_22) (K := y_22.toInt) rfl (by omega) (by omega); have e33 := rm_a9 (x := (rp_sk b mn mpt)) (k := y_22) (by omega) (by omega); omega) (by omega) (by have := (rf_Ls hL).2.2; have := hex_70.1; have := rf_ngt6 hc_12; have := rf_lth hc_24; have e31 := rf_pk (x := p1) (k := 1) (K := 1) (by decide) (by omega) (by omega); have e32 := rf_pk (x := (p1 + 1)) (k := y_22) (K := y_22.toInt) rfl (by omega) (by omega); have e33 := rm_a9 (x := (rp_sk b mn mpt)) (k := y_22) (by omega) (by omega); omega) (by have := (rf_Ls hL).2.2; have := hex_70.1; have := rf_ngt6 hc_12; have := rf_lth hc_24; have e31 := rf_pk (x := p1) (k := 1) (K := 1) (by decide) (by omega) (by omega); have e32 := rf_pk (x := (p1 + 1)) (k := y_22) (K := y_22.toInt) rfl (by omega) (by omega); have e33 := rm_a9 (x := (rp_sk b mn mpt)) (k := y_22) (by omega) (by omega); omega)⟩
      · refine lv_aload_n hx hb dX11_readName_55 rfl (lv_at hl 1 rfl) ?_
        refine lv_iconst (v := 3) hx hb dX11_readName_56 (by decide) ?_
        obtain ⟨hP, hD⟩ := ty_opPD (E1 := [(rf_RW ct 0 mb 800 b), (rf_RW ct 0 mf 958 g)]) (E2 := [(rf_MO mo mw ma mf m0 m1 mu mv u0 u1 iz th mb mn (rp_sk b mn mpt) (rp_sk b mn mpt) mwr (0) mlf men)]) (n := 3) [1, 2, 0] hP hD rfl rfl (by decide +kernel) ty_mva
        refine ty_Ki hP hD hS hA (va_runV (As := [.int 3]) (rest := []) ⟨hx, hb, hml, hown, hts⟩ (m_X11_fails l D ct S ws_18 ph xx mo mw ma mf m0 m1 mu mv u0 u1 iz mb th mn (rp_sk b mn mpt) (rp_sk b mn mpt) mwr mlf men (3 : Int32) _ hT hph hy1) (cm_V 1 hts kc_X11_fails ki_RX11 kl_RX11_112 kv_X11_fails kx_X11_fails kd_X11_fails ⟨Nat.le_of_ble_eq_true rfl, Nat.le_of_ble_eq_true rfl⟩) (ty_preE (ci := 11) (q0 := 2) hP hK hD hS hA hX rfl rfl) rfl rfl hl.1 rfl (lv_room (Nat.le_of_ble_eq_true rfl)) dX11_readName_57 ⟨Nat.le_of_ble_eq_true rfl, Nat.le_of_ble_eq_true rfl⟩) (fun r_29 u H locs hw_30 hP hD hS => ?_)
        obtain ⟨ws_31, rfl⟩ : ∃ z, z = u := ⟨_, rfl⟩
        obtain ⟨hT, rfl⟩ := hw_30
        obtain ⟨hP, hD⟩ := ty_shPD (w2 := ([(rf_RW ct 0 mb 800 b), (rf_RW ct 0 mf 958 g), (rf_MO mo mw ma mf m0 m1 mu mv u0 u1 iz th mb mn (rp_sk b mn mpt) (rp_sk b mn mpt) (rp_sk b mn mpt) (3) mlf men)] ++ ws_31)) hP hD rfl
        obtain ⟨hP, hD⟩ := ty_ordPD (E2 := [(rf_MO mo mw ma mf m0 m1 mu mv u0 u1 iz th mb mn (rp_sk b mn mpt) (rp_sk b mn mpt) (rp_sk b mn mpt) (3) mlf men), (rf_RW ct 0 mb 800 b), (rf_RW ct 0 mf 958 g)]) (n := 3) [2, 0, 1] hP hD rfl rfl (by decide +kernel)
        exact W.zret (v := 0) hx hb hr (by decide) (fun t ht hW => ⟨⟨0, (ws_31, (rp_sk b mn mpt), (rp_sk b mn mpt), (rp_sk b mn mpt), (3 : Int32), g), rfl, ⟨hT, ⟨by omega, Or.inl ⟨rfl, rm_nk3 (rm_let hc_8) (Or.inr (rm_m2 hnd_20 hc_21).2)⟩⟩⟩, by rw [ht]; exact hP, by rw [hAe]; exact hD⟩, hS.F ht⟩) hS.2.2 dX11_readName_60
  · refine lv_aload_n hx hb dX11_readName_16 rfl (lv_at hl 0 rfl) ?_
    refine lv_iconst (v := 1) hx hb dX11_readName_17 (by decide) ?_
    obtain ⟨hP, hD⟩ := ty_opPD (E1 := [(rf_RW ct 0 mf 958 g), (rf_RW ct 0 mb 800 b)]) (E2 := [(rf_MO mo mw ma mf m0 m1 mu mv u0 u1 iz th mb mn (rp_sk b mn mpt) (rp_sk b mn mpt) mwr (0) mlf men)]) (n := 3) [0, 2, 1] hP hD rfl rfl (by decide +kernel) ty_mva
    refine ty_Ki hP hD hS hA (va_runV (As := [.int 1]) (rest := []) ⟨hx, hb, hml, hown, hts⟩ (m_X11_fails l D ct S ws_7 ph xx mo mw ma mf m0 m1 mu mv u0 u1 iz mb th mn (rp_sk b mn mpt) (rp_sk b mn mpt) mwr mlf men (1 : Int32) _ hT hph hy1) (cm_V 1 hts kc_X11_fails ki_RX11 kl_RX11_112 kv_X11_fails kx_X11_fails kd_X11_fails ⟨Nat.le_of_ble_eq_true rfl, Nat.le_of_ble_eq_true rfl⟩) (ty_preE (ci := 11) (q0 := 2) hP hK hD hS hA hX rfl rfl) rfl rfl hl.1 rfl (lv_room (Nat.le_of_ble_eq_true rfl)) dX11_readName_18 ⟨Nat.le_of_ble_eq_true rfl, Nat.le_of_ble_eq_true rfl⟩) (fun r_32 u H locs hw_33 hP hD hS => ?_)
    obtain ⟨ws_34, rfl⟩ : ∃ z, z = u := ⟨_, rfl⟩
    obtain ⟨hT, rfl⟩ := hw_33
    obtain ⟨hP, hD⟩ := ty_shPD (w2 := ([(rf_RW ct 0 mf 958 g), (rf_RW ct 0 mb 800 b), (rf_MO mo mw ma mf m0 m1 mu mv u0 u1 iz th mb mn (rp_sk b mn mpt) (rp_sk b mn mpt) (rp_sk b mn mpt) (1) mlf men)] ++ ws_34)) hP hD rfl
    obtain ⟨hP, hD⟩ := ty_ordPD (E2 := [(rf_MO mo mw ma mf m0 m1 mu mv u0 u1 iz th mb mn (rp_sk b mn mpt) (rp_sk b mn mpt) (rp_sk b mn mpt) (1) mlf men), (rf_RW ct 0 mb 800 b), (rf_RW ct 0 mf 958 g)]) (n := 3) [2, 1, 0] hP hD rfl rfl (by decide +kernel)
    exact W.zret (v := 0) hx hb hr (by decide) (fun t ht hW => ⟨⟨0, (ws_34, (rp_sk b mn mpt), (rp_sk b mn mpt), (rp_sk b mn mpt), (1 : Int32), g), rfl, ⟨hT, ⟨by omega, Or.inl ⟨rfl, rm_nk1 (rm_letN hc_8)⟩⟩⟩, by rw [ht]; exact hP, by rw [hAe]; exact hD⟩, hS.F ht⟩) hS.2.2 dX11_readName_21
set_option maxRecDepth 100000 in
set_option maxHeartbeats 4000000 in
theorem m_X11_readCurve (l : Launch) (D : va_G) (ct : Nat → ClassId) (S : ty_S) (ws : va_W) (ph : va_W → Prop) (xx : Nat → Nat → Nat → Prop) (mo : Nat) (mw : Nat) (ma : Nat) (mf : Nat) (m0 : Nat) (m1 : Nat) (mu : Nat) (mv : Nat) (u0 : Nat) (u1 : Nat) (iz : Nat) (mb : Nat) (th : Int32) (mn : Int32) (mpt : Int32) (mbg : Int32) (mwr : Int32) (mlf : Int32) (men : Int32) (b : Nat → Int32) (g : Nat → Int32) (N : List (List Int32)) (sz : Nat) (hT : ty_V ct S ph ws) (hph : ty_C ph xx) (hy1 : ty_y1 xx) (hmn : 0 ≤ mn.toInt ∧ mn.toInt ≤ 800) (hpt : 0 ≤ mpt.toInt ∧ mpt.toInt ≤ mn.toInt) (hb2 : mpt.toInt ≤ mbg.toInt ∧ mbg.toInt ≤ mn.toInt) (hL : rf_L g) (hN : rm_N N g) : Met l yX11_readCurve (ws_ yX11_readCurve cX11_readCurve 4 (some .boolean)) ({ frames := 5, cells := 0, slots := 0, locals := 110 } : Room) (va_Pc [.ref mo] (cmP D ct sz ([(rf_MO mo mw ma mf m0 m1 mu mv u0 u1 iz th mb mn mpt mbg mwr (0) mlf men), (rf_RW ct 0 mb 800 b), (rf_RW ct 0 mf 958 g)] ++ ws))) (va_Qi (fun (r : Int32) (u : va_W × Int32 × Int32 × Int32 × Int32 × (Nat → Int32)) => match u with | (u9, mpt1, mbg1, mwr1, mwk1, g1) => ty_V ct S ph u9 ∧ ((mpt.toInt ≤ mpt1.toInt ∧ mpt1.toInt ≤ mn.toInt) ∧ 0 ≤ mbg1.toInt ∧ mbg1.toInt ≤ mn.toInt) ∧ ((r = 0 ∧ rm_B b mn (rp_ck b mn N mbg) (rp_cp b mn N mbg) mwk1 mwr1) ∨ (r = 1 ∧ (rp_ck b mn N mbg) = 0 ∧ mwk1 = 0 ∧ rp_sk b mn mpt1 = rp_sk b mn (rp_cp b mn N mbg) ∧ rf_L g1 ∧ rm_N (N ++ [rp_w b mn (rp_q2 b mn mbg)]) g1 ∧ g1 9 = g 9 ∧ g1 10 = g 10 ∧ g1 = rq_curve b mn mbg g))) (cmB D ([(rf_MO mo mw ma mf m0 m1 mu mv u0 u1 iz th mb mn mpt mbg mwr (0) mlf men), (rf_RW ct 0 mb 800 b), (rf_RW ct 0 mf 958 g)] ++ ws) sz (fun (u : va_W × Int32 × Int32 × Int32 × Int32 × (Nat → Int32)) => match u with | (u9, mpt1, mbg1, mwr1, mwk1, g1) => ([(rf_MO mo mw ma mf m0 m1 mu mv u0 u1 iz th mb mn mpt1 mbg1 mwr1 mwk1 mlf men), (rf_RW ct 0 mb 800 b), (rf_RW ct 0 mf 958 g1)] ++ u9))) (va_A ([(rf_MO mo mw ma mf m0 m1 mu mv u0 u1 iz th mb mn mpt mbg mwr (0) mlf men), (rf_RW ct 0 mb 800 b), (rf_RW ct 0 mf 958 g)] ++ ws) sz)) 0 0 (va_A ([(rf_MO mo mw ma mf m0 m1 mu mv u0 u1 iz th mb mn mpt mbg mwr (0) mlf men), (rf_RW ct 0 mb 800 b), (rf_RW ct 0 mf 958 g)] ++ ws) sz) := by
  refine Met.ofW (cc := cX11_readCurve) (maxL := 4) (ret := (some .boolean)) (by decide) rfl ?_
  intro p e s m args below meth c s₁ B hml hv
  obtain ⟨rfl, hsz, hP, hK, hD0, hX⟩ := hv
  have hx := B.exec
  have hb := B.bytes
  have hr := B.returns
  have hts := ws_all (atoms_spec (ws := ws_ yX11_readCurve cX11_readCurve 4 (some .boolean)) B.pre)
  have hown : s.vm.findClass RX11 = some m.cls := findClass_of_methodNamed B.named
  have hlocks := B.notSynchronized
  subst hsz
  have hD := hD0.self (sz := s.heap.size)
  generalize hAe : va_A ([(rf_MO mo mw ma mf m0 m1 mu mv u0 u1 iz th mb mn mpt mbg mwr (0) mlf men), (rf_RW ct 0 mb 800 b), (rf_RW ct 0 mf 958 g)] ++ ws) s.heap.size = A at hD hX ⊢
  have hA : ∀ q : Nat, s.heap.size ≤ q → A q := fun q h => by rw [← hAe]; exact Or.inr h
  have hS : va_S A s.heap s.heap [] := va_S.rf
  have hl := lv_entry ([.ref mo]) (n := 4) (Nat.le_of_ble_eq_true rfl)
  rw [lg_entry_eq]
  generalize (lg_sl ([.ref mo]) ++ List.replicate (4 - (lg_sl ([.ref mo])).length) Slot.unset).toArray = ls at hl ⊢
  have hl : lv_has ls 4 [(0, .ref mo)] := hl
  refine lv_aload_n hx hb dX11_readCurve_0 rfl (lv_at hl 0 rfl) ?_
  refine va_get (v := .ref mf) (D := D) (ci := 11) (C := RX11) (T := TX11) (N := 19) hx hb hts in_X11 hown hK hP 0 rfl rfl 2 (by decide) (hts _ kl_RX11_16) (fun _ h9 => h9) rfl dX11_readCurve_1 ?_
  refine lv_bipush (v := 11) hx hb dX11_readCurve_4 (by decide) ?_
  refine va_iald hx hb hK hP 2 0 rfl rfl (cm_vin (by decide)) dX11_readCurve_6 ?_
  refine cm_cst (y := (g 11)) (by first | rfl | decide +kernel) ?_
  refine lv_iconst (v := 4) hx hb dX11_readCurve_7 (by decide) ?_
  refine lv_icmp_ne (tgt := 17) hx hb dX11_readCurve_8 (by decide) (fun hc_1 => ?_) (fun hc_1 => ?_)
  · refine lv_bipush (v := 20) hx hb dX11_readCurve_17 (by decide) ?_
    refine lv_bipush (v := 19) hx hb dX11_readCurve_19 (by decide) ?_
    refine lv_aload_n hx hb dX11_readCurve_21 rfl (lv_at hl 0 rfl) ?_
    refine va_get (v := .ref mf) (D := D) (ci := 11) (C := RX11) (T := TX11) (N := 19) hx hb hts in_X11 hown hK hP 0 rfl rfl 2 (by decide) (hts _ kl_RX11_16) (fun _ h9 => h9) rfl dX11_readCurve_22 ?_
    refine lv_bipush (v := 11) hx hb dX11_readCurve_25 (by decide) ?_
    refine va_iald hx hb hK hP 2 0 rfl rfl (cm_vin (by decide)) dX11_readCurve_27 ?_
    refine cm_cst (y := (g 11)) (by first | rfl | decide +kernel) ?_
    refine lv_imul hx hb dX11_readCurve_28 ?_
    refine lv_iadd hx hb dX11_readCurve_29 ?_
    refine lv_istore_n (lv' := [(1, .int (20 + (19 * (g 11)))), (0, .ref mo)]) hx hb dX11_readCurve_30 rfl hl (by decide) rfl (fun ls hl => ?_)
    refine lv_aload_n hx hb dX11_readCurve_31 rfl (lv_at hl 1 rfl) ?_
    obtain ⟨hP, hD⟩ := ty_opPD (E1 := [(rf_RW ct 0 mf 958 g)]) (E2 := [(rf_MO mo mw ma mf m0 m1 mu mv u0 u1 iz th mb mn mpt mbg mwr (0) mlf men), (rf_RW ct 0 mb 800 b)]) (n := 3) [2, 0, 1] hP hD rfl rfl (by decide +kernel) ty_mva
    refine ty_Ki hP hD hS hA (va_runV (As := []) (rest := []) ⟨hx, hb, hml, hown, hts⟩ (m_X11_passes l D ct S ws ph xx mo mw ma mf m0 m1 mu mv u0 u1 iz mb th mn mpt mbg mwr (0 : Int32) mlf men b _ hT hph hy1 hmn (by omega)) (cm_V 0 hts kc_X11_passes ki_RX11 kl_RX11_133 kv_X11_passes kx_X11_passes kd_X11_passes ⟨Nat.le_of_ble_eq_true rfl, Nat.le_of_ble_eq_true rfl⟩) (ty_preE (ci := 11) (q0 := 1) hP hK hD hS hA hX rfl rfl) rfl rfl hl.1 rfl (lv_room (Nat.le_of_ble_eq_true rfl)) dX11_readCurve_32 ⟨Nat.le_of_ble_eq_true rfl, Nat.le_of_ble_eq_true rfl⟩) (fun r_2 u H locs hw_3 hP hD hS => ?_)
    obtain ⟨ws_4, rfl⟩ : ∃ z, z = u := ⟨_, rfl⟩
    obtain ⟨hT, rfl⟩ := hw_3
    obtain ⟨hP, hD⟩ := ty_shPD (w2 := ([(rf_RW ct 0 mf 958 g), (rf_MO mo mw ma mf m0 m1 mu mv u0 u1 iz th mb mn (rp_we b mn mbg) mbg mwr (0) mlf men), (rf_RW ct 0 mb 800 b)] ++ ws_4)) hP hD rfl
    have hs_5 := rp_we_b (b := b) (p := mbg) hmn.2 (by omega)
    refine lv_pop hx hb dX11_readCurve_35 rfl ?_
    refine lv_aload_n hx hb dX11_readCurve_36 rfl (lv_at hl 1 rfl) ?_
    refine lv_iload_n hx hb dX11_readCurve_37 rfl (lv_at hl 0 rfl) ?_
    obtain ⟨hP, hD⟩ := ty_opPD (E1 := []) (E2 := [(rf_MO mo mw ma mf m0 m1 mu mv u0 u1 iz th mb mn (rp_we b mn mbg) mbg mwr (0) mlf men), (rf_RW ct 0 mb 800 b), (rf_RW ct 0 mf 958 g)]) (n := 3) [1, 2, 0] hP hD rfl rfl (by decide +kernel) ty_mva
    refine ty_Ki hP hD hS hA (va_runV (As := [.int (20 + (19 * (g 11)))]) (rest := []) ⟨hx, hb, hml, hown, hts⟩ (m_X11_readName l D ct S ws_4 ph xx mo mw ma mf m0 m1 mu mv u0 u1 iz mb th mn (rp_we b mn mbg) mbg mwr mlf men b (20 + (19 * (g 11))) g N _ hT hph hy1 hmn (by omega) hL (rf_n4b (rf_Ls hL).2.2 hc_1) (rf_c7 hL hc_1).2.1 hN) (cm_V 1 hts kc_X11_readName ki_RX11 kl_RX11_137 kv_X11_readName kx_X11_readName kd_X11_readName ⟨Nat.le_of_ble_eq_true rfl, Nat.le_of_ble_eq_true rfl⟩) (ty_preE (ci := 11) (q0 := 0) hP hK hD hS hA hX rfl rfl) rfl rfl hl.1 rfl (lv_room (Nat.le_of_ble_eq_true rfl)) dX11_readCurve_38 ⟨Nat.le_of_ble_eq_true rfl, Nat.le_of_ble_eq_true rfl⟩) (fun r_6 u H locs hw_7 hP hD hS => ?_)
    obtain ⟨ws_8, mpt1_9, mbg1_10, mwr1_11, mwk1_12, g1_13⟩ := u
    obtain ⟨hT, hp_14⟩ := hw_7
    have hp_14 : (((rp_we b mn mbg).toInt ≤ mpt1_9.toInt ∧ mpt1_9.toInt ≤ mn.toInt) ∧ 0 ≤ mbg1_10.toInt ∧ mbg1_10.toInt ≤ mn.toInt) ∧ ((r_6 = 0 ∧ rm_f (rp_nk b mn N (rp_sk b mn (rp_we b mn mbg))) (rp_sk b mn (rp_we b mn mbg)) mwk1_12 mwr1_11) ∨ (r_6 = 1 ∧ (rp_nk b mn N (rp_sk b mn (rp_we b mn mbg))) = 0 ∧ mwk1_12 = 0 ∧ mpt1_9 = rp_we b mn (rp_sk b mn (rp_we b mn mbg)) ∧ rf_La g g1_13 ∧ (∀ j : Nat, 20 ≤ j → j < 20 + 19 * (g 11).toInt.toNat → g1_13 j = g j) ∧ rm_W g1_13 (g 11).toInt.toNat (rp_w b mn (rp_sk b mn (rp_we b mn mbg))) ∧ g1_13 = rq_nm b (rp_sk b mn (rp_we b mn mbg)) (20 + 19 * (g 11).toInt.toNat) ((rp_we b mn (rp_sk b mn (rp_we b mn mbg))) - (rp_sk b mn (rp_we b mn mbg))) g ((rp_we b mn (rp_sk b mn (rp_we b mn mbg))) - (rp_sk b mn (rp_we b mn mbg))).toInt.toNat)) := hp_14
    obtain ⟨hP, hD⟩ := ty_shPD (w2 := ([(rf_MO mo mw ma mf m0 m1 mu mv u0 u1 iz th mb mn mpt1_9 mbg1_10 mwr1_11 mwk1_12 mlf men), (rf_RW ct 0 mb 800 b), (rf_RW ct 0 mf 958 g1_13)] ++ ws_8)) hP hD rfl
    obtain ⟨hb_15, hc_16⟩ := hp_14
    rcases hc_16 with ⟨rfl, hz_17⟩ | ⟨rfl, hz_18⟩
    · refine lv_if_ne (tgt := 46) hx hb dX11_readCurve_41 (by decide) (fun hc => absurd (by decide) hc) (fun _ => ?_)
      refine lv_iconst (v := 0) hx hb dX11_readCurve_44 (by decide) ?_
      exact W.zret (v := 0) hx hb hr (by decide) (fun t ht hW => ⟨⟨0, (ws_8, mpt1_9, mbg1_10, mwr1_11, mwk1_12, g1_13), rfl, ⟨hT, ⟨by omega, Or.inl ⟨rfl, rm_fB (rm_cn (rm_N4 hN hc_1 (rf_Ls hL).2.2.2) hz_17)⟩⟩⟩, by rw [ht]; exact hP, by rw [hAe]; exact hD⟩, hS.F ht⟩) hS.2.2 dX11_readCurve_45
    · obtain ⟨hq_19, hq_20, hq_21, hq_22, hq_23, hq_24, hq_25⟩ := hz_18
      subst hq_20
      subst hq_21
      have hsq := rp_sk_b (b := b) (p := (rp_we b mn mbg)) hmn.2 (by omega)
      have hq9 : 0 ≤ (rp_q2 b mn mbg).toInt ∧ (rp_q2 b mn mbg).toInt ≤ mn.toInt := (by show 0 ≤ (rp_sk b mn (rp_we b mn mbg)).toInt ∧ (rp_sk b mn (rp_we b mn mbg)).toInt ≤ mn.toInt; omega)
      have hwe2 := rp_we_b (b := b) (p := (rp_sk b mn (rp_we b mn mbg))) hmn.2 (by omega)
      refine lv_if_ne (tgt := 46) hx hb dX11_readCurve_41 (by decide) (fun _ => ?_) (fun hc => absurd hc (by decide))
      refine lv_iconst (v := 0) hx hb dX11_readCurve_46 (by decide) ?_
      refine lv_istore_n (lv' := [(2, .int 0), (1, .int (20 + (19 * (g 11)))), (0, .ref mo)]) hx hb dX11_readCurve_47 rfl hl (by decide) rfl (fun ls hl => ?_)
      refine lv_iconst (v := 0) hx hb dX11_readCurve_48 (by decide) ?_
      refine lv_istore_n (lv' := [(3, .int 0), (2, .int 0), (1, .int (20 + (19 * (g 11)))), (0, .ref mo)]) hx hb dX11_readCurve_49 rfl hl (by decide) rfl (fun ls hl => ?_)
      refine ty_loop (I := fun μ H locs ls => ∃ (ws : va_W) (y_26 : Int32) (y_27 : Int32) (y_28 : Int32) (y_29 : Int32) (y_30 : Int32) (g_31 : Nat → Int32), μ = (12 - y_26.toInt).toNat ∧ ty_V ct S ph ws ∧ va_P D vwCl ([(rf_MO mo mw ma mf m0 m1 mu mv u0 u1 iz th mb mn y_28 y_29 y_30 (0) mlf men), (rf_RW ct 0 mb 800 b), (rf_RW ct 0 mf 958 g_31)] ++ ws) H ∧ va_D A ([(rf_MO mo mw ma mf m0 m1 mu mv u0 u1 iz th mb mn y_28 y_29 y_30 (0) mlf men), (rf_RW ct 0 mb 800 b), (rf_RW ct 0 mf 958 g_31)] ++ ws) ∧ va_S A s.heap H locs ∧ lv_has ls 4 [(0, .ref mo), (1, .int (20 + (19 * (g 11)))), (2, .int y_26), (3, .int y_27)] ∧ (0 ≤ y_26.toInt ∧ y_26.toInt ≤ 11) ∧ ((mpt.toInt ≤ y_28.toInt ∧ y_28.toInt ≤ mn.toInt) ∧ 0 ≤ y_29.toInt ∧ y_29.toInt ≤ mn.toInt) ∧ rf_La g g_31 ∧ (∀ j : Nat, j < 28 + 19 * (g 11).toInt.toNat → g_31 j = g1_13 j) ∧ rm_cJ b mn N mbg y_26 y_27.toInt y_28 ∧ rq_vJ b mn (28 + 19 * (g 11).toInt.toNat) (rp_we b mn (rp_sk b mn (rp_we b mn mbg))) g1_13 y_26 y_27.toInt y_28 g_31) ⟨_, ws_8, (0 : Int32), (0 : Int32), (rp_we b mn (rp_sk b mn (rp_we b mn mbg))), mbg1_10, mwr1_11, g1_13, rfl, hT, hP, hD, hS, (lv_sub hl [3, 2, 1, 0] rfl), (by decide), (by omega), hq_22, (fun j _ => rfl), rm_cj0 (rm_N4 hN hc_1 (rf_Ls hL).2.2.2) hq_19, rq_vJ0⟩ (fun μ H locs ls hI ih_50 => ?_)
      obtain ⟨ws, y_26, y_27, y_28, y_29, y_30, g_31, rfl, hT, hP, hD, hS, hl, hex_50⟩ := hI
      refine lv_iload_n hx hb dX11_readCurve_50 rfl (lv_at hl 2 rfl) ?_
      refine lv_iconst (v := 2) hx hb dX11_readCurve_51 (by decide) ?_
      refine lv_icmp_lt (tgt := 72) hx hb dX11_readCurve_52 (by decide) (fun hc_32 => ?_) (fun hc_32 => ?_)
      · refine lv_iload_n hx hb dX11_readCurve_72 rfl (lv_at hl 2 rfl) ?_
        refine lv_bipush (v := 11) hx hb dX11_readCurve_73 (by decide) ?_
        refine lv_icmp_ne (tgt := 84) hx hb dX11_readCurve_75 (by decide) (fun hc_33 => ?_) (fun hc_33 => ?_)
        · refine lv_aload_n hx hb dX11_readCurve_84 rfl (lv_at hl 0 rfl) ?_
          refine lv_iload_n hx hb dX11_readCurve_85 rfl (lv_at hl 1 rfl) ?_
          refine lv_bipush (v := 8) hx hb dX11_readCurve_86 (by decide) ?_
          refine lv_iadd hx hb dX11_readCurve_88 ?_
          refine lv_iload_n hx hb dX11_readCurve_89 rfl (lv_at hl 2 rfl) ?_
          refine lv_iadd hx hb dX11_readCurve_90 ?_
          refine lv_iload_n hx hb dX11_readCurve_91 rfl (lv_at hl 3 rfl) ?_
          refine lv_sipush (v := 5000) hx hb dX11_readCurve_92 (by decide) ?_
          obtain ⟨hP, hD⟩ := ty_ipPD (E1 := []) (E2 := [(rf_MO mo mw ma mf m0 m1 mu mv u0 u1 iz th mb mn y_28 y_29 y_30 (0) mlf men), (rf_RW ct 0 mb 800 b), (rf_RW ct 0 mf 958 g_31)]) hP hD rfl ty_mva
          refine ty_Ki hP hD hS hA (va_runV (As := [.int (((20 + (19 * (g 11))) + 8) + y_26), .int y_27, .int 5000]) (rest := []) ⟨hx, hb, hml, hown, hts⟩ (m_X11_reads l D ct S ws ph xx mo mw ma mf m0 m1 mu mv u0 u1 iz mb th mn y_28 y_29 y_30 mlf men b (((20 + (19 * (g 11))) + 8) + y_26) y_27 (5000 : Int32) g_31 y_27.toInt 5000 _ hT hph hy1 hmn (by omega) (by have := rf_c8 (n := y_26) hL hc_1 hex_50.1 hc_33; omega) rfl (by decide)) (cm_V 3 hts kc_X11_reads ki_RX11 kl_RX11_140 kv_X11_reads kx_X11_reads kd_X11_reads ⟨Nat.le_of_ble_eq_true rfl, Nat.le_of_ble_eq_true rfl⟩) (ty_preE (ci := 11) (q0 := 0) hP hK hD hS hA hX rfl rfl) rfl rfl hl.1 rfl (lv_room (Nat.le_of_ble_eq_true rfl)) dX11_readCurve_95 ⟨Nat.le_of_ble_eq_true rfl, Nat.le_of_ble_eq_true rfl⟩) (fun r_34 u H locs hw_35 hP hD hS => ?_)
          obtain ⟨ws_36, mpt1_37, mwr1_38, mwk1_39, g1_40⟩ := u
          obtain ⟨hT, hp_41⟩ := hw_35
          have hp_41 : (y_28.toInt ≤ mpt1_37.toInt ∧ mpt1_37.toInt ≤ mn.toInt) ∧ ((r_34 = 0 ∧ rm_f (rp_rk b mn y_27.toInt 5000 y_28) (rp_rp b mn y_27.toInt 5000 y_28) mwk1_39 mwr1_38) ∨ (r_34 = 1 ∧ (rp_rk b mn y_27.toInt 5000 y_28 = 0 ∧ mwk1_39 = 0 ∧ mpt1_37 = rp_rp b mn y_27.toInt 5000 y_28) ∧ ∃ v : Int32, (y_27.toInt ≤ v.toInt ∧ v.toInt ≤ 5000) ∧ v.toInt = rp_rv b mn y_28 ∧ g1_40 = upd g_31 (((20 + (19 * (g 11))) + 8) + y_26).toInt.toNat v)) := hp_41
          obtain ⟨hP, hD⟩ := ty_shPD (w2 := ([(rf_MO mo mw ma mf m0 m1 mu mv u0 u1 iz th mb mn mpt1_37 (rp_sk b mn y_28) mwr1_38 mwk1_39 mlf men), (rf_RW ct 0 mb 800 b), (rf_RW ct 0 mf 958 g1_40)] ++ ws_36)) hP hD rfl
          obtain ⟨hb_42, hc_43⟩ := hp_41
          have hs_44 := rp_sk_b (b := b) (p := y_28) hmn.2 (by omega)
          rcases hc_43 with ⟨rfl, hz_45⟩ | ⟨rfl, hz_46⟩
          · refine lv_if_ne (tgt := 103) hx hb dX11_readCurve_98 (by decide) (fun hc => absurd (by decide) hc) (fun _ => ?_)
            refine lv_iconst (v := 0) hx hb dX11_readCurve_101 (by decide) ?_
            exact W.zret (v := 0) hx hb hr (by decide) (fun t ht hW => ⟨⟨0, (ws_36, mpt1_37, (rp_sk b mn y_28), mwr1_38, mwk1_39, g1_40), rfl, ⟨hT, ⟨by omega, Or.inl ⟨rfl, rm_fB (rm_cjf hex_50.2.2.2.2.1 (by have := rm_n11 hc_33; have := hex_50.1; omega) (fun z => by have := rm_lt2 hc_32; omega) hz_45)⟩⟩⟩, by rw [ht]; exact hP, by rw [hAe]; exact hD⟩, hS.F ht⟩) hS.2.2 dX11_readCurve_102
          · obtain ⟨⟨hk_47, hwk_48, hpt_49⟩, v_50, hv_51, hvv_52, hg_53⟩ := hz_46
            have hb_54 := hb_42
            subst hwk_48
            subst hpt_49
            refine lv_if_ne (tgt := 103) hx hb dX11_readCurve_98 (by decide) (fun _ => ?_) (fun hc => absurd hc (by decide))
            refine lv_aload_n hx hb dX11_readCurve_103 rfl (lv_at hl 0 rfl) ?_
            refine va_get (v := .ref mf) (D := D) (ci := 11) (C := RX11) (T := TX11) (N := 19) hx hb hts in_X11 hown hK hP 0 rfl rfl 2 (by decide) (hts _ kl_RX11_16) (fun _ h9 => h9) rfl dX11_readCurve_104 ?_
            refine lv_iload_n hx hb dX11_readCurve_107 rfl (lv_at hl 1 rfl) ?_
            refine lv_bipush (v := 8) hx hb dX11_readCurve_108 (by decide) ?_
            refine lv_iadd hx hb dX11_readCurve_110 ?_
            refine lv_iload_n hx hb dX11_readCurve_111 rfl (lv_at hl 2 rfl) ?_
            refine lv_iadd hx hb dX11_readCurve_112 ?_
            refine va_iald hx hb hK hP 2 0 rfl rfl (rf_vin (by have := rf_c8 (n := y_26) hL hc_1 hex_50.1 hc_33; omega)) dX11_readCurve_113 ?_
            refine lv_istore_n (lv' := [(3, .int (g1_40 (((20 + (19 * (g 11))) + 8) + y_26).toNatClampNeg)), (0, .ref mo), (1, .int (20 + (19 * (g 11)))), (2, .int y_26)]) hx hb dX11_readCurve_114 rfl hl (by decide) rfl (fun ls hl => ?_)
            refine lv_iinc (v := (y_26 + Int32.ofInt 1)) (lv' := [(2, .int (y_26 + Int32.ofInt 1)), (3, .int (g1_40 (((20 + (19 * (g 11))) + 8) + y_26).toNatClampNeg)), (0, .ref mo), (1, .int (20 + (19 * (g 11))))]) hx hb dX11_readCurve_115 hl (k := 3) rfl rfl (by decide) rfl (fun ls hl => ?_)
            refine lv_goto (tgt := 50) hx hb dX11_readCurve_118 (by decide) ?_
            exact ih_50 _ _ _ _ (by have := rf_c8 (n := y_26) hL hc_1 hex_50.1 hc_33; have e43 : (y_26 + Int32.ofInt 1).toInt = y_26.toInt + 1 := rf_p1 (by omega); omega) ⟨ws_36, (y_26 + Int32.ofInt 1), (g1_40 (((20 + (19 * (g 11))) + 8) + y_26).toNatClampNeg), (rp_rp b mn y_27.toInt 5000 y_28), (rp_sk b mn y_28), mwr1_38, g1_40, rfl, hT, hP, hD, hS, (lv_sub hl [2, 3, 0, 1] rfl), (by have := rf_c8 (n := y_26) hL hc_1 hex_50.1 hc_33; have e43 : (y_26 + Int32.ofInt 1).toInt = y_26.toInt + 1 := rf_p1 (by omega); omega), (by omega), (by have := rf_c8 (n := y_26) hL hc_1 hex_50.1 hc_33; rw [hg_53]; exact rf_La1 (x := (((20 + (19 * (g 11))) + 8) + y_26)) hex_50.2.2.1 (Or.inl (by omega))), (fun j hj => by have := rf_c8 (n := y_26) hL hc_1 hex_50.1 hc_33; have := (rf_Ls hL).2.2; rw [hg_53, rf_upd_ne (by omega)]; exact hex_50.2.2.2.1 j hj), rm_cjs hex_50.2.2.2.2.1 (by have := rm_n11 hc_33; have := hex_50.1; omega) (fun z => by have := rm_lt2 hc_32; omega) hk_47 (by rw [hg_53]; exact (congrArg Int32.toInt (rm_ue rfl)).trans hvv_52), rq_vs hex_50.2.2.2.2.2 (by have := rm_n11 hc_33; have := hex_50.1; omega) (fun z => by have := rm_lt2 hc_32; omega) (by have := rf_c8 (n := y_26) hL hc_1 hex_50.1 hc_33; omega) hg_53 hvv_52 (by rw [hg_53]; exact (congrArg Int32.toInt (rm_ue rfl)).trans hvv_52)⟩
        · exact absurd (rm_lt2 hc_32) (by rw [hc_33]; decide)
      · refine lv_aload_n hx hb dX11_readCurve_55 rfl (lv_at hl 0 rfl) ?_
        obtain ⟨hP, hD⟩ := ty_opPD (E1 := [(rf_RW ct 0 mf 958 g_31)]) (E2 := [(rf_MO mo mw ma mf m0 m1 mu mv u0 u1 iz th mb mn y_28 y_29 y_30 (0) mlf men), (rf_RW ct 0 mb 800 b)]) (n := 3) [2, 0, 1] hP hD rfl rfl (by decide +kernel) ty_mva
        refine ty_Ki hP hD hS hA (va_runV (As := []) (rest := []) ⟨hx, hb, hml, hown, hts⟩ (m_X11_see l D ct S ws ph xx mo mw ma mf m0 m1 mu mv u0 u1 iz mb th mn y_28 y_29 y_30 (0 : Int32) mlf men b _ hT hph hy1 hmn (by omega)) (cm_V 0 hts kc_X11_see ki_RX11 kl_RX11_106 kv_X11_see kx_X11_see kd_X11_see ⟨Nat.le_of_ble_eq_true rfl, Nat.le_of_ble_eq_true rfl⟩) (ty_preE (ci := 11) (q0 := 1) hP hK hD hS hA hX rfl rfl) rfl rfl hl.1 rfl (lv_room (Nat.le_of_ble_eq_true rfl)) dX11_readCurve_56 ⟨Nat.le_of_ble_eq_true rfl, Nat.le_of_ble_eq_true rfl⟩) (fun r_55 u H locs hw_56 hP hD hS => ?_)
        obtain ⟨ws_57, rfl⟩ : ∃ z, z = u := ⟨_, rfl⟩
        obtain ⟨hT, rfl⟩ := hw_56
        obtain ⟨hP, hD⟩ := ty_shPD (w2 := ([(rf_RW ct 0 mf 958 g_31), (rf_MO mo mw ma mf m0 m1 mu mv u0 u1 iz th mb mn (rp_sk b mn y_28) (rp_sk b mn y_28) y_30 (0) mlf men), (rf_RW ct 0 mb 800 b)] ++ ws_57)) hP hD rfl
        have hs_58 := rp_sk_b (b := b) (p := y_28) hmn.2 (by omega)
        refine lv_i2l hx hb dX11_readCurve_59 rfl ?_
        refine lv_ldc2 hx hb hown (hts _ kl_RX11_74) dX11_readCurve_60 ?_
        refine lv_ldc2 hx hb hown (hts _ kl_RX11_76) dX11_readCurve_63 ?_
        obtain ⟨hP, hD⟩ := ty_ipPD (E1 := [(rf_RW ct 0 mf 958 g_31), (rf_MO mo mw ma mf m0 m1 mu mv u0 u1 iz th mb mn (rp_sk b mn y_28) (rp_sk b mn y_28) y_30 (0) mlf men), (rf_RW ct 0 mb 800 b)]) (E2 := []) hP hD rfl ty_mva
        refine ty_Ki hP hD hS hA (va_runS (As := [.long ((rf_bt b mn (rp_sk b mn y_28)).toInt64), .long 48, .long 57]) (rest := []) ⟨hx, hb, hml, hown, hts⟩ (m_X11_in l D ct S ws_57 ph xx ((rf_bt b mn (rp_sk b mn y_28)).toInt64) (48 : Int64) (57 : Int64) _ hT hph hy1) (cm_S 3 hts kc_X11_in ki_RX11 kl_RX11_70 ks_X11_in kd_X11_in ⟨Nat.le_of_ble_eq_true rfl, Nat.le_of_ble_eq_true rfl⟩) (ty_preS hP hK hD hS hA hX) rfl rfl hl.1 rfl (lv_room (Nat.le_of_ble_eq_true rfl)) dX11_readCurve_66 ⟨Nat.le_of_ble_eq_true rfl, Nat.le_of_ble_eq_true rfl⟩) (fun r_59 u H locs hw_60 hP hD hS => ?_)
        obtain ⟨ws_61, rfl⟩ : ∃ z, z = u := ⟨_, rfl⟩
        obtain ⟨hT, rfl⟩ := hw_60
        obtain ⟨hP, hD⟩ := ty_shPD (w2 := ([(rf_RW ct 0 mf 958 g_31), (rf_MO mo mw ma mf m0 m1 mu mv u0 u1 iz th mb mn (rp_sk b mn y_28) (rp_sk b mn y_28) y_30 (0) mlf men), (rf_RW ct 0 mb 800 b)] ++ ws_61)) hP hD rfl
        refine lv_if_eq (tgt := 121) hx hb dX11_readCurve_69 (by decide) (fun hc_62 => ?_) (fun hc_62 => ?_)
        · refine lv_aload_n hx hb dX11_readCurve_121 rfl (lv_at hl 0 rfl) ?_
          refine va_get (v := .ref mf) (D := D) (ci := 11) (C := RX11) (T := TX11) (N := 19) hx hb hts in_X11 hown hK hP 1 rfl rfl 2 (by decide) (hts _ kl_RX11_16) (fun _ h9 => h9) rfl dX11_readCurve_122 ?_
          refine lv_iload_n hx hb dX11_readCurve_125 rfl (lv_at hl 1 rfl) ?_
          refine lv_bipush (v := 7) hx hb dX11_readCurve_126 (by decide) ?_
          refine lv_iadd hx hb dX11_readCurve_128 ?_
          refine lv_iload_n hx hb dX11_readCurve_129 rfl (lv_at hl 2 rfl) ?_
          refine va_iast hx hb hK hP hD hS 0 0 rfl rfl (rf_vin (by have := rf_c7 hL hc_1; omega)) dX11_readCurve_130 (fun H locs hP hD hS => ?_)
          have hP : va_P D vwCl ([(rf_RW ct 0 mf 958 (upd g_31 ((20 + (19 * (g 11))) + 7).toNatClampNeg y_26)), (rf_MO mo mw ma mf m0 m1 mu mv u0 u1 iz th mb mn (rp_sk b mn y_28) (rp_sk b mn y_28) y_30 (0) mlf men), (rf_RW ct 0 mb 800 b)] ++ ws_61) H := hP
          have hD : va_D A ([(rf_RW ct 0 mf 958 (upd g_31 ((20 + (19 * (g 11))) + 7).toNatClampNeg y_26)), (rf_MO mo mw ma mf m0 m1 mu mv u0 u1 iz th mb mn (rp_sk b mn y_28) (rp_sk b mn y_28) y_30 (0) mlf men), (rf_RW ct 0 mb 800 b)] ++ ws_61) := hD
          refine lv_aload_n hx hb dX11_readCurve_131 rfl (lv_at hl 0 rfl) ?_
          refine va_get (v := .ref mf) (D := D) (ci := 11) (C := RX11) (T := TX11) (N := 19) hx hb hts in_X11 hown hK hP 1 rfl rfl 2 (by decide) (hts _ kl_RX11_16) (fun _ h9 => h9) rfl dX11_readCurve_132 ?_
          refine lv_bipush (v := 11) hx hb dX11_readCurve_135 (by decide) ?_
          refine lv_dup2_11 hx hb dX11_readCurve_137 rfl rfl ?_
          refine va_iald hx hb hK hP 0 0 rfl rfl (cm_vin (by decide)) dX11_readCurve_138 ?_
          refine cm_cst (y := ((upd g_31 ((20 + (19 * (g 11))) + 7).toNatClampNeg y_26) 11)) (by first | rfl | decide +kernel) ?_
          refine lv_iconst (v := 1) hx hb dX11_readCurve_139 (by decide) ?_
          refine lv_iadd hx hb dX11_readCurve_140 ?_
          refine va_iast hx hb hK hP hD hS 0 0 rfl rfl (cm_vin (by decide)) dX11_readCurve_141 (fun H locs hP hD hS => ?_)
          have hP : va_P D vwCl ([(rf_RW ct 0 mf 958 (upd (upd g_31 ((20 + (19 * (g 11))) + 7).toNatClampNeg y_26) (11 : Int32).toNatClampNeg (((upd g_31 ((20 + (19 * (g 11))) + 7).toNatClampNeg y_26) 11) + 1))), (rf_MO mo mw ma mf m0 m1 mu mv u0 u1 iz th mb mn (rp_sk b mn y_28) (rp_sk b mn y_28) y_30 (0) mlf men), (rf_RW ct 0 mb 800 b)] ++ ws_61) H := hP
          have hD : va_D A ([(rf_RW ct 0 mf 958 (upd (upd g_31 ((20 + (19 * (g 11))) + 7).toNatClampNeg y_26) (11 : Int32).toNatClampNeg (((upd g_31 ((20 + (19 * (g 11))) + 7).toNatClampNeg y_26) 11) + 1))), (rf_MO mo mw ma mf m0 m1 mu mv u0 u1 iz th mb mn (rp_sk b mn y_28) (rp_sk b mn y_28) y_30 (0) mlf men), (rf_RW ct 0 mb 800 b)] ++ ws_61) := hD
          refine lv_iconst (v := 1) hx hb dX11_readCurve_142 (by decide) ?_
          obtain ⟨hP, hD⟩ := ty_ordPD (E2 := [(rf_MO mo mw ma mf m0 m1 mu mv u0 u1 iz th mb mn (rp_sk b mn y_28) (rp_sk b mn y_28) y_30 (0) mlf men), (rf_RW ct 0 mb 800 b), (rf_RW ct 0 mf 958 (upd (upd g_31 ((20 + (19 * (g 11))) + 7).toNatClampNeg y_26) (11 : Int32).toNatClampNeg (((upd g_31 ((20 + (19 * (g 11))) + 7).toNatClampNeg y_26) 11) + 1)))]) (n := 3) [1, 2, 0] hP hD rfl rfl (by decide +kernel)
          exact W.zret (v := 1) hx hb hr (by decide) (fun t ht hW => ⟨⟨1, (ws_61, (rp_sk b mn y_28), (rp_sk b mn y_28), y_30, (0 : Int32), (upd (upd g_31 ((20 + (19 * (g 11))) + 7).toNatClampNeg y_26) (11 : Int32).toNatClampNeg (((upd g_31 ((20 + (19 * (g 11))) + 7).toNatClampNeg y_26) 11) + 1))), rfl, ⟨hT, ⟨by omega, Or.inr ⟨rfl, (rm_cje hex_50.2.2.2.2.1 ⟨rf_ge9 hc_32 (by decide), hex_50.1.2⟩ (rm_digN hc_62) hmn.2 (by omega)).1, rfl, (rm_cje hex_50.2.2.2.2.1 ⟨rf_ge9 hc_32 (by decide), hex_50.1.2⟩ (rm_digN hc_62) hmn.2 (by omega)).2, rf_Lcv hex_50.2.2.1 (rf_n4b (rf_Ls hL).2.2 hc_1) (rf_c7 hL hc_1).1 ⟨rf_ge9 hc_32 (by decide), hex_50.1.2⟩, rm_cvN hN (rm_N4 hN hc_1 (rf_Ls hL).2.2.2) rfl hq_23 hq_24 ⟨rm_w1 hmn.2 hq9 (rm_nkl hq_19).1, Nat.not_lt.mp (fun z => (rm_nkl hq_19).2 (Or.inl z))⟩ hex_50.2.2.2.1 (rf_c7 hL hc_1).1 (hex_50.2.2.1.2 11 (by omega)), rm_cv9 hex_50.2.2.1 (by have := (rf_c7 hL hc_1); omega) (by omega) (by omega), rm_cv9 hex_50.2.2.1 (by have := (rf_c7 hL hc_1); omega) (by omega) (by omega), (by have v9 := rq_ve hex_50.2.2.2.2.2 ⟨rf_ge9 hc_32 (by decide), hex_50.1.2⟩ (rm_digN hc_62); rw [hq_25] at v9; exact rq_cntE (by have := (rf_c7 hL hc_1); omega) v9.2 (by decide) v9.1.symm)⟩⟩⟩, by rw [ht]; exact hP, by rw [hAe]; exact hD⟩, hS.F ht⟩) hS.2.2 dX11_readCurve_143
        · refine lv_iload_n hx hb dX11_readCurve_72 rfl (lv_at hl 2 rfl) ?_
          refine lv_bipush (v := 11) hx hb dX11_readCurve_73 (by decide) ?_
          refine lv_icmp_ne (tgt := 84) hx hb dX11_readCurve_75 (by decide) (fun hc_63 => ?_) (fun hc_63 => ?_)
          · refine lv_aload_n hx hb dX11_readCurve_84 rfl (lv_at hl 0 rfl) ?_
            refine lv_iload_n hx hb dX11_readCurve_85 rfl (lv_at hl 1 rfl) ?_
            refine lv_bipush (v := 8) hx hb dX11_readCurve_86 (by decide) ?_
            refine lv_iadd hx hb dX11_readCurve_88 ?_
            refine lv_iload_n hx hb dX11_readCurve_89 rfl (lv_at hl 2 rfl) ?_
            refine lv_iadd hx hb dX11_readCurve_90 ?_
            refine lv_iload_n hx hb dX11_readCurve_91 rfl (lv_at hl 3 rfl) ?_
            refine lv_sipush (v := 5000) hx hb dX11_readCurve_92 (by decide) ?_
            obtain ⟨hP, hD⟩ := ty_opPD (E1 := []) (E2 := [(rf_MO mo mw ma mf m0 m1 mu mv u0 u1 iz th mb mn (rp_sk b mn y_28) (rp_sk b mn y_28) y_30 (0) mlf men), (rf_RW ct 0 mb 800 b), (rf_RW ct 0 mf 958 g_31)]) (n := 3) [1, 2, 0] hP hD rfl rfl (by decide +kernel) ty_mva
            refine ty_Ki hP hD hS hA (va_runV (As := [.int (((20 + (19 * (g 11))) + 8) + y_26), .int y_27, .int 5000]) (rest := []) ⟨hx, hb, hml, hown, hts⟩ (m_X11_reads l D ct S ws_61 ph xx mo mw ma mf m0 m1 mu mv u0 u1 iz mb th mn (rp_sk b mn y_28) (rp_sk b mn y_28) y_30 mlf men b (((20 + (19 * (g 11))) + 8) + y_26) y_27 (5000 : Int32) g_31 y_27.toInt 5000 _ hT hph hy1 hmn (by omega) (by have := rf_c8 (n := y_26) hL hc_1 hex_50.1 hc_63; omega) rfl (by decide)) (cm_V 3 hts kc_X11_reads ki_RX11 kl_RX11_140 kv_X11_reads kx_X11_reads kd_X11_reads ⟨Nat.le_of_ble_eq_true rfl, Nat.le_of_ble_eq_true rfl⟩) (ty_preE (ci := 11) (q0 := 0) hP hK hD hS hA hX rfl rfl) rfl rfl hl.1 rfl (lv_room (Nat.le_of_ble_eq_true rfl)) dX11_readCurve_95 ⟨Nat.le_of_ble_eq_true rfl, Nat.le_of_ble_eq_true rfl⟩) (fun r_64 u H locs hw_65 hP hD hS => ?_)
            obtain ⟨ws_66, mpt1_67, mwr1_68, mwk1_69, g1_70⟩ := u
            obtain ⟨hT, hp_71⟩ := hw_65
            have hp_71 : ((rp_sk b mn y_28).toInt ≤ mpt1_67.toInt ∧ mpt1_67.toInt ≤ mn.toInt) ∧ ((r_64 = 0 ∧ rm_f (rp_rk b mn y_27.toInt 5000 (rp_sk b mn y_28)) (rp_rp b mn y_27.toInt 5000 (rp_sk b mn y_28)) mwk1_69 mwr1_68) ∨ (r_64 = 1 ∧ (rp_rk b mn y_27.toInt 5000 (rp_sk b mn y_28) = 0 ∧ mwk1_69 = 0 ∧ mpt1_67 = rp_rp b mn y_27.toInt 5000 (rp_sk b mn y_28)) ∧ ∃ v : Int32, (y_27.toInt ≤ v.toInt ∧ v.toInt ≤ 5000) ∧ v.toInt = rp_rv b mn (rp_sk b mn y_28) ∧ g1_70 = upd g_31 (((20 + (19 * (g 11))) + 8) + y_26).toInt.toNat v)) := hp_71
            obtain ⟨hP, hD⟩ := ty_shPD (w2 := ([(rf_MO mo mw ma mf m0 m1 mu mv u0 u1 iz th mb mn mpt1_67 (rp_sk b mn (rp_sk b mn y_28)) mwr1_68 mwk1_69 mlf men), (rf_RW ct 0 mb 800 b), (rf_RW ct 0 mf 958 g1_70)] ++ ws_66)) hP hD rfl
            obtain ⟨hb_72, hc_73⟩ := hp_71
            have hs_74 := rp_sk_b (b := b) (p := (rp_sk b mn y_28)) hmn.2 (by omega)
            rcases hc_73 with ⟨rfl, hz_75⟩ | ⟨rfl, hz_76⟩
            · rw [(rp_rk_sk (b := b) (lo := y_27.toInt) (hi := 5000) hmn.2 (p := y_28) (by omega)).1, (rp_rk_sk (b := b) (lo := y_27.toInt) (hi := 5000) hmn.2 (p := y_28) (by omega)).2.1] at hz_75
              refine lv_if_ne (tgt := 103) hx hb dX11_readCurve_98 (by decide) (fun hc => absurd (by decide) hc) (fun _ => ?_)
              refine lv_iconst (v := 0) hx hb dX11_readCurve_101 (by decide) ?_
              exact W.zret (v := 0) hx hb hr (by decide) (fun t ht hW => ⟨⟨0, (ws_66, mpt1_67, (rp_sk b mn (rp_sk b mn y_28)), mwr1_68, mwk1_69, g1_70), rfl, ⟨hT, ⟨by omega, Or.inl ⟨rfl, rm_fB (rm_cjf hex_50.2.2.2.2.1 (by have := rm_n11 hc_63; have := hex_50.1; omega) (fun z => z.2 (rm_dig hc_62)) hz_75)⟩⟩⟩, by rw [ht]; exact hP, by rw [hAe]; exact hD⟩, hS.F ht⟩) hS.2.2 dX11_readCurve_102
            · obtain ⟨⟨hk_77, hwk_78, hpt_79⟩, v_80, hv_81, hvv_82, hg_83⟩ := hz_76
              rw [(rp_rk_sk (b := b) (lo := y_27.toInt) (hi := 5000) hmn.2 (p := y_28) (by omega)).1] at hk_77
              rw [(rp_rk_sk (b := b) (lo := y_27.toInt) (hi := 5000) hmn.2 (p := y_28) (by omega)).2.1] at hpt_79
              rw [(rp_rk_sk (b := b) (lo := y_27.toInt) (hi := 5000) hmn.2 (p := y_28) (by omega)).2.2] at hvv_82
              have hb_84 := hb_72
              subst hwk_78
              subst hpt_79
              refine lv_if_ne (tgt := 103) hx hb dX11_readCurve_98 (by decide) (fun _ => ?_) (fun hc => absurd hc (by decide))
              refine lv_aload_n hx hb dX11_readCurve_103 rfl (lv_at hl 0 rfl) ?_
              refine va_get (v := .ref mf) (D := D) (ci := 11) (C := RX11) (T := TX11) (N := 19) hx hb hts in_X11 hown hK hP 0 rfl rfl 2 (by decide) (hts _ kl_RX11_16) (fun _ h9 => h9) rfl dX11_readCurve_104 ?_
              refine lv_iload_n hx hb dX11_readCurve_107 rfl (lv_at hl 1 rfl) ?_
              refine lv_bipush (v := 8) hx hb dX11_readCurve_108 (by decide) ?_
              refine lv_iadd hx hb dX11_readCurve_110 ?_
              refine lv_iload_n hx hb dX11_readCurve_111 rfl (lv_at hl 2 rfl) ?_
              refine lv_iadd hx hb dX11_readCurve_112 ?_
              refine va_iald hx hb hK hP 2 0 rfl rfl (rf_vin (by have := rf_c8 (n := y_26) hL hc_1 hex_50.1 hc_63; omega)) dX11_readCurve_113 ?_
              refine lv_istore_n (lv' := [(3, .int (g1_70 (((20 + (19 * (g 11))) + 8) + y_26).toNatClampNeg)), (0, .ref mo), (1, .int (20 + (19 * (g 11)))), (2, .int y_26)]) hx hb dX11_readCurve_114 rfl hl (by decide) rfl (fun ls hl => ?_)
              refine lv_iinc (v := (y_26 + Int32.ofInt 1)) (lv' := [(2, .int (y_26 + Int32.ofInt 1)), (3, .int (g1_70 (((20 + (19 * (g 11))) + 8) + y_26).toNatClampNeg)), (0, .ref mo), (1, .int (20 + (19 * (g 11))))]) hx hb dX11_readCurve_115 hl (k := 3) rfl rfl (by decide) rfl (fun ls hl => ?_)
              refine lv_goto (tgt := 50) hx hb dX11_readCurve_118 (by decide) ?_
              exact ih_50 _ _ _ _ (by have := rf_c8 (n := y_26) hL hc_1 hex_50.1 hc_63; have e43 : (y_26 + Int32.ofInt 1).toInt = y_26.toInt + 1 := rf_p1 (by omega); omega) ⟨ws_66, (y_26 + Int32.ofInt 1), (g1_70 (((20 + (19 * (g 11))) + 8) + y_26).toNatClampNeg), (rp_rp b mn y_27.toInt 5000 y_28), (rp_sk b mn (rp_sk b mn y_28)), mwr1_68, g1_70, rfl, hT, hP, hD, hS, (lv_sub hl [2, 3, 0, 1] rfl), (by have := rf_c8 (n := y_26) hL hc_1 hex_50.1 hc_63; have e43 : (y_26 + Int32.ofInt 1).toInt = y_26.toInt + 1 := rf_p1 (by omega); omega), (by omega), (by have := rf_c8 (n := y_26) hL hc_1 hex_50.1 hc_63; rw [hg_83]; exact rf_La1 (x := (((20 + (19 * (g 11))) + 8) + y_26)) hex_50.2.2.1 (Or.inl (by omega))), (fun j hj => by have := rf_c8 (n := y_26) hL hc_1 hex_50.1 hc_63; have := (rf_Ls hL).2.2; rw [hg_83, rf_upd_ne (by omega)]; exact hex_50.2.2.2.1 j hj), rm_cjs hex_50.2.2.2.2.1 (by have := rm_n11 hc_63; have := hex_50.1; omega) (fun z => z.2 (rm_dig hc_62)) hk_77 (by rw [hg_83]; exact (congrArg Int32.toInt (rm_ue rfl)).trans hvv_82), rq_vs hex_50.2.2.2.2.2 (by have := rm_n11 hc_63; have := hex_50.1; omega) (fun z => z.2 (rm_dig hc_62)) (by have := rf_c8 (n := y_26) hL hc_1 hex_50.1 hc_63; omega) hg_83 hvv_82 (by rw [hg_83]; exact (congrArg Int32.toInt (rm_ue rfl)).trans hvv_82)⟩
          · refine lv_aload_n hx hb dX11_readCurve_78 rfl (lv_at hl 0 rfl) ?_
            refine lv_iconst (v := 1) hx hb dX11_readCurve_79 (by decide) ?_
            obtain ⟨hP, hD⟩ := ty_opPD (E1 := [(rf_RW ct 0 mf 958 g_31), (rf_RW ct 0 mb 800 b)]) (E2 := [(rf_MO mo mw ma mf m0 m1 mu mv u0 u1 iz th mb mn (rp_sk b mn y_28) (rp_sk b mn y_28) y_30 (0) mlf men)]) (n := 3) [0, 2, 1] hP hD rfl rfl (by decide +kernel) ty_mva
            refine ty_Ki hP hD hS hA (va_runV (As := [.int 1]) (rest := []) ⟨hx, hb, hml, hown, hts⟩ (m_X11_fails l D ct S ws_61 ph xx mo mw ma mf m0 m1 mu mv u0 u1 iz mb th mn (rp_sk b mn y_28) (rp_sk b mn y_28) y_30 mlf men (1 : Int32) _ hT hph hy1) (cm_V 1 hts kc_X11_fails ki_RX11 kl_RX11_112 kv_X11_fails kx_X11_fails kd_X11_fails ⟨Nat.le_of_ble_eq_true rfl, Nat.le_of_ble_eq_true rfl⟩) (ty_preE (ci := 11) (q0 := 2) hP hK hD hS hA hX rfl rfl) rfl rfl hl.1 rfl (lv_room (Nat.le_of_ble_eq_true rfl)) dX11_readCurve_80 ⟨Nat.le_of_ble_eq_true rfl, Nat.le_of_ble_eq_true rfl⟩) (fun r_85 u H locs hw_86 hP hD hS => ?_)
            obtain ⟨ws_87, rfl⟩ : ∃ z, z = u := ⟨_, rfl⟩
            obtain ⟨hT, rfl⟩ := hw_86
            obtain ⟨hP, hD⟩ := ty_shPD (w2 := ([(rf_RW ct 0 mf 958 g_31), (rf_RW ct 0 mb 800 b), (rf_MO mo mw ma mf m0 m1 mu mv u0 u1 iz th mb mn (rp_sk b mn y_28) (rp_sk b mn y_28) (rp_sk b mn y_28) (1) mlf men)] ++ ws_87)) hP hD rfl
            obtain ⟨hP, hD⟩ := ty_ordPD (E2 := [(rf_MO mo mw ma mf m0 m1 mu mv u0 u1 iz th mb mn (rp_sk b mn y_28) (rp_sk b mn y_28) (rp_sk b mn y_28) (1) mlf men), (rf_RW ct 0 mb 800 b), (rf_RW ct 0 mf 958 g_31)]) (n := 3) [2, 1, 0] hP hD rfl rfl (by decide +kernel)
            exact W.zret (v := 0) hx hb hr (by decide) (fun t ht hW => ⟨⟨0, (ws_87, (rp_sk b mn y_28), (rp_sk b mn y_28), (rp_sk b mn y_28), (1 : Int32), g_31), rfl, ⟨hT, ⟨by omega, Or.inl ⟨rfl, rm_cj11 hex_50.2.2.2.2.1 hc_63 (rm_dig hc_62)⟩⟩⟩, by rw [ht]; exact hP, by rw [hAe]; exact hD⟩, hS.F ht⟩) hS.2.2 dX11_readCurve_83
  · refine lv_aload_n hx hb dX11_readCurve_11 rfl (lv_at hl 0 rfl) ?_
    refine lv_iconst (v := 4) hx hb dX11_readCurve_12 (by decide) ?_
    obtain ⟨hP, hD⟩ := ty_opPD (E1 := [(rf_RW ct 0 mb 800 b), (rf_RW ct 0 mf 958 g)]) (E2 := [(rf_MO mo mw ma mf m0 m1 mu mv u0 u1 iz th mb mn mpt mbg mwr (0) mlf men)]) (n := 3) [1, 2, 0] hP hD rfl rfl (by decide +kernel) ty_mva
    refine ty_Ki hP hD hS hA (va_runV (As := [.int 4]) (rest := []) ⟨hx, hb, hml, hown, hts⟩ (m_X11_fails l D ct S ws ph xx mo mw ma mf m0 m1 mu mv u0 u1 iz mb th mn mpt mbg mwr mlf men (4 : Int32) _ hT hph hy1) (cm_V 1 hts kc_X11_fails ki_RX11 kl_RX11_112 kv_X11_fails kx_X11_fails kd_X11_fails ⟨Nat.le_of_ble_eq_true rfl, Nat.le_of_ble_eq_true rfl⟩) (ty_preE (ci := 11) (q0 := 2) hP hK hD hS hA hX rfl rfl) rfl rfl hl.1 rfl (lv_room (Nat.le_of_ble_eq_true rfl)) dX11_readCurve_13 ⟨Nat.le_of_ble_eq_true rfl, Nat.le_of_ble_eq_true rfl⟩) (fun r_88 u H locs hw_89 hP hD hS => ?_)
    obtain ⟨ws_90, rfl⟩ : ∃ z, z = u := ⟨_, rfl⟩
    obtain ⟨hT, rfl⟩ := hw_89
    obtain ⟨hP, hD⟩ := ty_shPD (w2 := ([(rf_RW ct 0 mb 800 b), (rf_RW ct 0 mf 958 g), (rf_MO mo mw ma mf m0 m1 mu mv u0 u1 iz th mb mn mpt mbg mbg (4) mlf men)] ++ ws_90)) hP hD rfl
    obtain ⟨hP, hD⟩ := ty_ordPD (E2 := [(rf_MO mo mw ma mf m0 m1 mu mv u0 u1 iz th mb mn mpt mbg mbg (4) mlf men), (rf_RW ct 0 mb 800 b), (rf_RW ct 0 mf 958 g)]) (n := 3) [2, 0, 1] hP hD rfl rfl (by decide +kernel)
    exact W.zret (v := 0) hx hb hr (by decide) (fun t ht hW => ⟨⟨0, (ws_90, mpt, mbg, mbg, (4 : Int32), g), rfl, ⟨hT, ⟨by omega, Or.inl ⟨rfl, rm_fB (rm_c4 (rm_N4e hN hc_1))⟩⟩⟩, by rw [ht]; exact hP, by rw [hAe]; exact hD⟩, hS.F ht⟩) hS.2.2 dX11_readCurve_16
