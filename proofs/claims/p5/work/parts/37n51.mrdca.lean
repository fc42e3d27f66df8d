theorem rf_Lcl {g : Nat → Int32} {x cv v1 v2 v3 v4 : Int32} {d1 d2 d3 d4 : Nat → Int32} (h : rf_L g) (h6 : (g 9).toInt < 6) (hx : x.toInt = 244 + 54 * (g 9).toInt) (hv : 0 ≤ cv.toInt ∧ cv.toInt < (g 11).toInt)
    (e1 : d1 = upd (upd g (x + 11).toNatClampNeg cv) (x + 12).toInt.toNat v1) (e2 : d2 = upd d1 (x + 13).toInt.toNat v2) (e3 : d3 = upd d2 (x + 14).toInt.toNat v3) (e4 : d4 = upd d3 (x + 15).toInt.toNat v4)
    (q1 : 100 ≤ v1.toInt ∧ v1.toInt ≤ 100000) (q2 : 1 ≤ v2.toInt ∧ v2.toInt ≤ 500) (q3 : 0 ≤ v3.toInt ∧ v3.toInt ≤ 500) (q4 : 1 ≤ v4.toInt ∧ v4.toInt ≤ 200) : rf_L (upd d4 (9 : Int32).toNatClampNeg ((d4 9) + 1)) := by
  have s := h.1.2.2.1
  have k1 := rf_pk (x := x) (k := 11) (K := 11) (by decide) (by omega) (by omega)
  have k2 := rf_pk (x := x) (k := 12) (K := 12) (by decide) (by omega) (by omega)
  have k3 := rf_pk (x := x) (k := 13) (K := 13) (by decide) (by omega) (by omega)
  have k4 := rf_pk (x := x) (k := 14) (K := 14) (by decide) (by omega) (by omega)
  have k5 := rf_pk (x := x) (k := 15) (K := 15) (by decide) (by omega) (by omega)
  have n1 : (x + 11).toNatClampNeg = 244 + 54 * (g 9).toInt.toNat + 11 := by
    show (x + 11).toInt.toNat = _
    omega
  have n2 : (x + 12).toInt.toNat = 244 + 54 * (g 9).toInt.toNat + 12 := by omega
  have n3 : (x + 13).toInt.toNat = 244 + 54 * (g 9).toInt.toNat + 13 := by omega
  have n4 : (x + 14).toInt.toNat = 244 + 54 * (g 9).toInt.toNat + 14 := by omega
  have n5 : (x + 15).toInt.toNat = 244 + 54 * (g 9).toInt.toNat + 15 := by omega
  have a0 : rf_La g (upd g (x + 11).toNatClampNeg cv) := rf_La1 (rf_La0 h) (by omega)
  have a1 : rf_La g d1 := by
    rw [e1]
    exact rf_La1 (x := x + 12) a0 (by omega)
  have a2 : rf_La g d2 := by
    rw [e2]
    exact rf_La1 (x := x + 13) a1 (by omega)
  have a3 : rf_La g d3 := by
    rw [e3]
    exact rf_La1 (x := x + 14) a2 (by omega)
  have a4 : rf_La g d4 := by
    rw [e4]
    exact rf_La1 (x := x + 15) a3 (by omega)
  have e9 : d4 9 = g 9 := a4.2 9 (by omega)
  have e11 : d4 11 = g 11 := a4.2 11 (by omega)
  rw [n1, n2] at e1
  rw [n3] at e2
  rw [n4] at e3
  rw [n5] at e4
  refine rf_Lm (i := 9) a4.1 (Or.inl rfl) (rf_p1 (by rw [e9]; omega)) (fun _ => ?_) (fun q => absurd q (by omega)) (fun q => absurd q (by omega))
  rw [e9, e11]
  have f5 : d4 (244 + 54 * (g 9).toInt.toNat + 15) = v4 := by rw [e4, rf_upd_eq]
  have f4 : d4 (244 + 54 * (g 9).toInt.toNat + 14) = v3 := by rw [e4, rf_upd_ne (by omega), e3, rf_upd_eq]
  have f3 : d4 (244 + 54 * (g 9).toInt.toNat + 13) = v2 := by rw [e4, rf_upd_ne (by omega), e3, rf_upd_ne (by omega), e2, rf_upd_eq]
  have f2 : d4 (244 + 54 * (g 9).toInt.toNat + 12) = v1 := by rw [e4, rf_upd_ne (by omega), e3, rf_upd_ne (by omega), e2, rf_upd_ne (by omega), e1, rf_upd_eq]
  have f1 : d4 (244 + 54 * (g 9).toInt.toNat + 11) = cv := by rw [e4, rf_upd_ne (by omega), e3, rf_upd_ne (by omega), e2, rf_upd_ne (by omega), e1, rf_upd_ne (by omega), rf_upd_eq]
  rw [f1, f2, f3, f4, f5]
  exact ⟨h6, hv, q1, q2, q3, q4⟩
theorem rm_clo {g d1 d2 d3 d4 : Nat → Int32} {x cv v1 v2 v3 v4 : Int32} (hx : 244 ≤ x.toInt ∧ x.toInt ≤ 1000) (e1 : d1 = upd (upd g (x + 11).toNatClampNeg cv) (x + 12).toInt.toNat v1) (e2 : d2 = upd d1 (x + 13).toInt.toNat v2) (e3 : d3 = upd d2 (x + 14).toInt.toNat v3) (e4 : d4 = upd d3 (x + 15).toInt.toNat v4) : ∀ j : Nat, j < 244 → d4 j = g j := by
  intro j hj
  have k1 := rf_pk (x := x) (k := 11) (K := 11) (by decide) (by omega) (by omega)
  have k2 := rf_pk (x := x) (k := 12) (K := 12) (by decide) (by omega) (by omega)
  have k3 := rf_pk (x := x) (k := 13) (K := 13) (by decide) (by omega) (by omega)
  have k4 := rf_pk (x := x) (k := 14) (K := 14) (by decide) (by omega) (by omega)
  have k5 := rf_pk (x := x) (k := 15) (K := 15) (by decide) (by omega) (by omega)
  have n1 : (x + 11).toNatClampNeg = (x + 11).toInt.toNat := rfl
  rw [e4, rf_upd_ne (by omega), e3, rf_upd_ne (by omega), e2, rf_upd_ne (by omega), e1, rf_upd_ne (by omega), rf_upd_ne (by omega)]
theorem rm_clN {g d1 d2 d3 d4 : Nat → Int32} {N : List (List Int32)} {x cv v1 v2 v3 v4 w : Int32} (hN : rm_N N g) (hn : (g 11).toInt = N.length) (hx : (244 ≤ x.toInt ∧ x.toInt ≤ 1000) ∧ (g 11).toInt ≤ 4) (e1 : d1 = upd (upd g (x + 11).toNatClampNeg cv) (x + 12).toInt.toNat v1) (e2 : d2 = upd d1 (x + 13).toInt.toNat v2) (e3 : d3 = upd d2 (x + 14).toInt.toNat v3) (e4 : d4 = upd d3 (x + 15).toInt.toNat v4) : rm_N N (upd d4 (9 : Int32).toNatClampNeg w) := by
  have e0 : (9 : Int32).toNatClampNeg = 9 := by decide
  have l := rm_clo hx.1 e1 e2 e3 e4
  rw [e0]
  exact rm_Nk hN (by omega) (by rw [rf_upd_ne (by omega)]; exact l 11 (by omega)) (fun j h1 h2 => by rw [rf_upd_ne (by omega)]; exact l j (by omega))
theorem rm_cl9 {g d1 d2 d3 d4 : Nat → Int32} {x cv v1 v2 v3 v4 : Int32} (hx : (244 ≤ x.toInt ∧ x.toInt ≤ 1000) ∧ 0 ≤ (g 9).toInt ∧ (g 9).toInt ≤ 6) (e1 : d1 = upd (upd g (x + 11).toNatClampNeg cv) (x + 12).toInt.toNat v1) (e2 : d2 = upd d1 (x + 13).toInt.toNat v2) (e3 : d3 = upd d2 (x + 14).toInt.toNat v3) (e4 : d4 = upd d3 (x + 15).toInt.toNat v4) : ((upd d4 (9 : Int32).toNatClampNeg ((d4 9) + 1)) 9).toInt = (g 9).toInt + 1 ∧ (upd d4 (9 : Int32).toNatClampNeg ((d4 9) + 1)) 10 = g 10 := by
  have e0 : (9 : Int32).toNatClampNeg = 9 := by decide
  have l := rm_clo hx.1 e1 e2 e3 e4
  rw [e0]
  refine ⟨by rw [rf_upd_eq, l 9 (by omega), rf_p1 (by omega)], ?_⟩
  rw [rf_upd_ne (by omega)]
  exact l 10 (by omega)
set_option maxRecDepth 100000 in
set_option maxHeartbeats 4000000 in
theorem m_X11_readCell (l : Launch) (D : va_G) (ct : Nat → ClassId) (S : ty_S) (ws : va_W) (ph : va_W → Prop) (xx : Nat → Nat → Nat → Prop) (mo : Nat) (mw : Nat) (ma : Nat) (mf : Nat) (m0 : Nat) (m1 : Nat) (mu : Nat) (mv : Nat) (u0 : Nat) (u1 : Nat) (iz : Nat) (mb : Nat) (th : Int32) (mn : Int32) (mpt : Int32) (mbg : Int32) (mwr : Int32) (mlf : Int32) (men : Int32) (b : Nat → Int32) (g : Nat → Int32) (N : List (List Int32)) (sz : Nat) (hT : ty_V ct S ph ws) (hph : ty_C ph xx) (hy1 : ty_y1 xx) (hmn : 0 ≤ mn.toInt ∧ mn.toInt ≤ 800) (hpt : 0 ≤ mpt.toInt ∧ mpt.toInt ≤ mn.toInt) (hb2 : mpt.toInt ≤ mbg.toInt ∧ mbg.toInt ≤ mn.toInt) (hL : rf_L g) (hN : rm_N N g) : Met l yX11_readCell (ws_ yX11_readCell cX11_readCell 3 (some .boolean)) ({ frames := 4, cells := 0, slots := 0, locals := 87 } : Room) (va_Pc [.ref mo] (cmP D ct sz ([(rf_MO mo mw ma mf m0 m1 mu mv u0 u1 iz th mb mn mpt mbg mwr (0) mlf men), (rf_RW ct 0 mb 800 b), (rf_RW ct 0 mf 958 g)] ++ ws))) (va_Qi (fun (r : Int32) (u : va_W × Int32 × Int32 × Int32 × Int32 × (Nat → Int32)) => match u with | (u9, mpt1, mbg1, mwr1, mwk1, g1) => ty_V ct S ph u9 ∧ ((mpt.toInt ≤ mpt1.toInt ∧ mpt1.toInt ≤ mn.toInt) ∧ 0 ≤ mbg1.toInt ∧ mbg1.toInt ≤ mn.toInt) ∧ ((r = 0 ∧ rm_B b mn (rp_lk b mn N (g 9).toInt mbg) (rp_lp b mn N (g 9).toInt mbg) mwk1 mwr1) ∨ (r = 1 ∧ (rp_lk b mn N (g 9).toInt mbg) = 0 ∧ mwk1 = 0 ∧ rp_sk b mn mpt1 = rp_sk b mn (rp_lp b mn N (g 9).toInt mbg) ∧ rf_L g1 ∧ rm_N N g1 ∧ (g1 9).toInt = (g 9).toInt + 1 ∧ g1 10 = g 10 ∧ g1 = rq_cell b mn N mbg g))) (cmB D ([(rf_MO mo mw ma mf m0 m1 mu mv u0 u1 iz th mb mn mpt mbg mwr (0) mlf men), (rf_RW ct 0 mb 800 b), (rf_RW ct 0 mf 958 g)] ++ ws) sz (fun (u : va_W × Int32 × Int32 × Int32 × Int32 × (Nat → Int32)) => match u with | (u9, mpt1, mbg1, mwr1, mwk1, g1) => ([(rf_MO mo mw ma mf m0 m1 mu mv u0 u1 iz th mb mn mpt1 mbg1 mwr1 mwk1 mlf men), (rf_RW ct 0 mb 800 b), (rf_RW ct 0 mf 958 g1)] ++ u9))) (va_A ([(rf_MO mo mw ma mf m0 m1 mu mv u0 u1 iz th mb mn mpt mbg mwr (0) mlf men), (rf_RW ct 0 mb 800 b), (rf_RW ct 0 mf 958 g)] ++ ws) sz)) 0 0 (va_A ([(rf_MO mo mw ma mf m0 m1 mu mv u0 u1 iz th mb mn mpt mbg mwr (0) mlf men), (rf_RW ct 0 mb 800 b), (rf_RW ct 0 mf 958 g)] ++ ws) sz) := by
  refine Met.ofW (cc := cX11_readCell) (maxL := 3) (ret := (some .boolean)) (by decide) rfl ?_
  intro p e s m args below meth c s₁ B hml hv
  obtain ⟨rfl, hsz, hP, hK, hD0, hX⟩ := hv
  have hx := B.exec
  have hb := B.bytes
  have hr := B.returns
  have hts := ws_all (atoms_spec (ws := ws_ yX11_readCell cX11_readCell 3 (some .boolean)) B.pre)
  have hown : s.vm.findClass RX11 = some m.cls := findClass_of_methodNamed B.named
  have hlocks := B.notSynchronized
  subst hsz
  have hD := hD0.self (sz := s.heap.size)
  generalize hAe : va_A ([(rf_MO mo mw ma mf m0 m1 mu mv u0 u1 iz th mb mn mpt mbg mwr (0) mlf men), (rf_RW ct 0 mb 800 b), (rf_RW ct 0 mf 958 g)] ++ ws) s.heap.size = A at hD hX ⊢
  have hA : ∀ q : Nat, s.heap.size ≤ q → A q := fun q h => by rw [← hAe]; exact Or.inr h
  have hS : va_S A s.heap s.heap [] := va_S.rf
  have hl := lv_entry ([.ref mo]) (n := 3) (Nat.le_of_ble_eq_true rfl)
  rw [lg_entry_eq]
  generalize (lg_sl ([.ref mo]) ++ List.replicate (3 - (lg_sl ([.ref mo])).length) Slot.unset).toArray = ls at hl ⊢
  have hl : lv_has ls 3 [(0, .ref mo)] := hl
  refine lv_aload_n hx hb dX11_readCell_0 rfl (lv_at hl 0 rfl) ?_
  refine va_get (v := .ref mf) (D := D) (ci := 11) (C := RX11) (T := TX11) (N := 19) hx hb hts in_X11 hown hK hP 0 rfl rfl 2 (by decide) (hts _ kl_RX11_16) (fun _ h9 => h9) rfl dX11_readCell_1 ?_
  refine lv_bipush (v := 9) hx hb dX11_readCell_4 (by decide) ?_
  refine va_iald hx hb hK hP 2 0 rfl rfl (cm_vin (by decide)) dX11_readCell_6 ?_
  refine cm_cst (y := (g 9)) (by first | rfl | decide +kernel) ?_
  refine lv_bipush (v := 6) hx hb dX11_readCell_7 (by decide) ?_
  refine lv_icmp_ne (tgt := 18) hx hb dX11_readCell_9 (by decide) (fun hc_1 => ?_) (fun hc_1 => ?_)
  · refine lv_sipush (v := 244) hx hb dX11_readCell_18 (by decide) ?_
    refine lv_bipush (v := 54) hx hb dX11_readCell_21 (by decide) ?_
    refine lv_aload_n hx hb dX11_readCell_23 rfl (lv_at hl 0 rfl) ?_
    refine va_get (v := .ref mf) (D := D) (ci := 11) (C := RX11) (T := TX11) (N := 19) hx hb hts in_X11 hown hK hP 0 rfl rfl 2 (by decide) (hts _ kl_RX11_16) (fun _ h9 => h9) rfl dX11_readCell_24 ?_
    refine lv_bipush (v := 9) hx hb dX11_readCell_27 (by decide) ?_
    refine va_iald hx hb hK hP 2 0 rfl rfl (cm_vin (by decide)) dX11_readCell_29 ?_
    refine cm_cst (y := (g 9)) (by first | rfl | decide +kernel) ?_
    refine lv_imul hx hb dX11_readCell_30 ?_
    refine lv_iadd hx hb dX11_readCell_31 ?_
    refine lv_istore_n (lv' := [(1, .int (244 + (54 * (g 9)))), (0, .ref mo)]) hx hb dX11_readCell_32 rfl hl (by decide) rfl (fun ls hl => ?_)
    refine lv_aload_n hx hb dX11_readCell_33 rfl (lv_at hl 1 rfl) ?_
    obtain ⟨hP, hD⟩ := ty_opPD (E1 := [(rf_RW ct 0 mf 958 g)]) (E2 := [(rf_MO mo mw ma mf m0 m1 mu mv u0 u1 iz th mb mn mpt mbg mwr (0) mlf men), (rf_RW ct 0 mb 800 b)]) (n := 3) [2, 0, 1] hP hD rfl rfl (by decide +kernel) ty_mva
    refine ty_Ki hP hD hS hA (va_runV (As := []) (rest := []) ⟨hx, hb, hml, hown, hts⟩ (m_X11_passes l D ct S ws ph xx mo mw ma mf m0 m1 mu mv u0 u1 iz mb th mn mpt mbg mwr (0 : Int32) mlf men b _ hT hph hy1 hmn (by omega)) (cm_V 0 hts kc_X11_passes ki_RX11 kl_RX11_133 kv_X11_passes kx_X11_passes kd_X11_passes ⟨Nat.le_of_ble_eq_true rfl, Nat.le_of_ble_eq_true rfl⟩) (ty_preE (ci := 11) (q0 := 1) hP hK hD hS hA hX rfl rfl) rfl rfl hl.1 rfl (lv_room (Nat.le_of_ble_eq_true rfl)) dX11_readCell_34 ⟨Nat.le_of_ble_eq_true rfl, Nat.le_of_ble_eq_true rfl⟩) (fun r_2 u H locs hw_3 hP hD hS => ?_)
    obtain ⟨ws_4, rfl⟩ : ∃ z, z = u := ⟨_, rfl⟩
    obtain ⟨hT, rfl⟩ := hw_3
    obtain ⟨hP, hD⟩ := ty_shPD (w2 := ([(rf_RW ct 0 mf 958 g), (rf_MO mo mw ma mf m0 m1 mu mv u0 u1 iz th mb mn (rp_we b mn mbg) mbg mwr (0) mlf men), (rf_RW ct 0 mb 800 b)] ++ ws_4)) hP hD rfl
    have hs_5 := rp_we_b (b := b) (p := mbg) hmn.2 (by omega)
    refine lv_pop hx hb dX11_readCell_37 rfl ?_
    refine lv_aload_n hx hb dX11_readCell_38 rfl (lv_at hl 1 rfl) ?_
    obtain ⟨hP, hD⟩ := ty_ipPD (E1 := [(rf_RW ct 0 mf 958 g)]) (E2 := [(rf_MO mo mw ma mf m0 m1 mu mv u0 u1 iz th mb mn (rp_we b mn mbg) mbg mwr (0) mlf men), (rf_RW ct 0 mb 800 b)]) hP hD rfl ty_mva
    refine ty_Ki hP hD hS hA (va_runV (As := []) (rest := []) ⟨hx, hb, hml, hown, hts⟩ (m_X11_see l D ct S ws_4 ph xx mo mw ma mf m0 m1 mu mv u0 u1 iz mb th mn (rp_we b mn mbg) mbg mwr (0 : Int32) mlf men b _ hT hph hy1 hmn (by omega)) (cm_V 0 hts kc_X11_see ki_RX11 kl_RX11_106 kv_X11_see kx_X11_see kd_X11_see ⟨Nat.le_of_ble_eq_true rfl, Nat.le_of_ble_eq_true rfl⟩) (ty_preE (ci := 11) (q0 := 1) hP hK hD hS hA hX rfl rfl) rfl rfl hl.1 rfl (lv_room (Nat.le_of_ble_eq_true rfl)) dX11_readCell_39 ⟨Nat.le_of_ble_eq_true rfl, Nat.le_of_ble_eq_true rfl⟩) (fun r_6 u H locs hw_7 hP hD hS => ?_)
    obtain ⟨ws_8, rfl⟩ : ∃ z, z = u := ⟨_, rfl⟩
    obtain ⟨hT, rfl⟩ := hw_7
    obtain ⟨hP, hD⟩ := ty_shPD (w2 := ([(rf_RW ct 0 mf 958 g), (rf_MO mo mw ma mf m0 m1 mu mv u0 u1 iz th mb mn (rp_sk b mn (rp_we b mn mbg)) (rp_sk b mn (rp_we b mn mbg)) mwr (0) mlf men), (rf_RW ct 0 mb 800 b)] ++ ws_8)) hP hD rfl
    have hs_9 := rp_sk_b (b := b) (p := (rp_we b mn mbg)) hmn.2 (by omega)
    refine lv_pop hx hb dX11_readCell_42 rfl ?_
    refine lv_aload_n hx hb dX11_readCell_43 rfl (lv_at hl 1 rfl) ?_
    refine lv_aload_n hx hb dX11_readCell_44 rfl (lv_at hl 1 rfl) ?_
    refine va_get (v := .int (rp_sk b mn (rp_we b mn mbg))) (D := D) (ci := 11) (C := RX11) (T := TX11) (N := 19) hx hb hts in_X11 hown hK hP 1 rfl rfl 14 (by decide) (hts _ kl_RX11_81) (fun _ h9 => h9) rfl dX11_readCell_45 ?_
    obtain ⟨hP, hD⟩ := ty_ipPD (E1 := [(rf_RW ct 0 mf 958 g)]) (E2 := [(rf_MO mo mw ma mf m0 m1 mu mv u0 u1 iz th mb mn (rp_sk b mn (rp_we b mn mbg)) (rp_sk b mn (rp_we b mn mbg)) mwr (0) mlf men), (rf_RW ct 0 mb 800 b)]) hP hD rfl ty_mva
    refine ty_Ki hP hD hS hA (va_runV (As := [.int (rp_sk b mn (rp_we b mn mbg))]) (rest := []) ⟨hx, hb, hml, hown, hts⟩ (m_X11_isLetter l D ct S ws_8 ph xx mo mw ma mf m0 m1 mu mv u0 u1 iz mb th mn (rp_sk b mn (rp_we b mn mbg)) (rp_sk b mn (rp_we b mn mbg)) mwr (0 : Int32) mlf men b (rp_sk b mn (rp_we b mn mbg)) _ hT hph hy1 hmn (by omega)) (cm_V 1 hts kc_X11_isLetter ki_RX11 kl_RX11_90 kv_X11_isLetter kx_X11_isLetter kd_X11_isLetter ⟨Nat.le_of_ble_eq_true rfl, Nat.le_of_ble_eq_true rfl⟩) (ty_preE (ci := 11) (q0 := 1) hP hK hD hS hA hX rfl rfl) rfl rfl hl.1 rfl (lv_room (Nat.le_of_ble_eq_true rfl)) dX11_readCell_48 ⟨Nat.le_of_ble_eq_true rfl, Nat.le_of_ble_eq_true rfl⟩) (fun r_10 u H locs hw_11 hP hD hS => ?_)
    obtain ⟨ws_12, rfl⟩ : ∃ z, z = u := ⟨_, rfl⟩
    obtain ⟨hT, rfl⟩ := hw_11
    obtain ⟨hP, hD⟩ := ty_shPD (w2 := ([(rf_RW ct 0 mf 958 g), (rf_MO mo mw ma mf m0 m1 mu mv u0 u1 iz th mb mn (rp_sk b mn (rp_we b mn mbg)) (rp_sk b mn (rp_we b mn mbg)) mwr (0) mlf men), (rf_RW ct 0 mb 800 b)] ++ ws_12)) hP hD rfl
    refine lv_if_ne (tgt := 60) hx hb dX11_readCell_51 (by decide) (fun hc_13 => ?_) (fun hc_13 => ?_)
    · refine lv_aload_n hx hb dX11_readCell_60 rfl (lv_at hl 1 rfl) ?_
      refine lv_aload_n hx hb dX11_readCell_61 rfl (lv_at hl 1 rfl) ?_
      refine va_get (v := .ref mf) (D := D) (ci := 11) (C := RX11) (T := TX11) (N := 19) hx hb hts in_X11 hown hK hP 1 rfl rfl 2 (by decide) (hts _ kl_RX11_16) (fun _ h9 => h9) rfl dX11_readCell_62 ?_
      refine lv_aload_n hx hb dX11_readCell_65 rfl (lv_at hl 1 rfl) ?_
      refine va_get (v := .int (rp_sk b mn (rp_we b mn mbg))) (D := D) (ci := 11) (C := RX11) (T := TX11) (N := 19) hx hb hts in_X11 hown hK hP 1 rfl rfl 14 (by decide) (hts _ kl_RX11_81) (fun _ h9 => h9) rfl dX11_readCell_66 ?_
      refine lv_aload_n hx hb dX11_readCell_69 rfl (lv_at hl 1 rfl) ?_
      obtain ⟨hP, hD⟩ := ty_ipPD (E1 := [(rf_RW ct 0 mf 958 g)]) (E2 := [(rf_MO mo mw ma mf m0 m1 mu mv u0 u1 iz th mb mn (rp_sk b mn (rp_we b mn mbg)) (rp_sk b mn (rp_we b mn mbg)) mwr (0) mlf men), (rf_RW ct 0 mb 800 b)]) hP hD rfl ty_mva
      refine ty_Ki hP hD hS hA (va_runV (As := []) (rest := [.int (rp_sk b mn (rp_we b mn mbg)), .ref mf, .ref mo]) ⟨hx, hb, hml, hown, hts⟩ (m_X11_wordEnd l D ct S ws_12 ph xx mo mw ma mf m0 m1 mu mv u0 u1 iz mb th mn (rp_sk b mn (rp_we b mn mbg)) (rp_sk b mn (rp_we b mn mbg)) mwr (0 : Int32) mlf men b _ hT hph hy1 hmn (by omega)) (cm_V 0 hts kc_X11_wordEnd ki_RX11 kl_RX11_94 kv_X11_wordEnd kx_X11_wordEnd kd_X11_wordEnd ⟨Nat.le_of_ble_eq_true rfl, Nat.le_of_ble_eq_true rfl⟩) (ty_preE (ci := 11) (q0 := 1) hP hK hD hS hA hX rfl rfl) rfl rfl hl.1 rfl (lv_room (Nat.le_of_ble_eq_true rfl)) dX11_readCell_70 ⟨Nat.le_of_ble_eq_true rfl, Nat.le_of_ble_eq_true rfl⟩) (fun r_14 u H locs hw_15 hP hD hS => ?_)
      obtain ⟨ws_16, rfl⟩ : ∃ z, z = u := ⟨_, rfl⟩
      obtain ⟨hT, rfl⟩ := hw_15
      obtain ⟨hP, hD⟩ := ty_shPD (w2 := ([(rf_RW ct 0 mf 958 g), (rf_MO mo mw ma mf m0 m1 mu mv u0 u1 iz th mb mn (rp_sk b mn (rp_we b mn mbg)) (rp_sk b mn (rp_we b mn mbg)) mwr (0) mlf men), (rf_RW ct 0 mb 800 b)] ++ ws_16)) hP hD rfl
      have hwe := rp_we_b (b := b) (p := (rp_sk b mn (rp_we b mn mbg))) hmn.2 (by omega)
      have hsz := rm_sz (b := b) (n := mn) (q := (rp_sk b mn (rp_we b mn mbg))) (by omega)
      refine lv_aload_n hx hb dX11_readCell_73 rfl (lv_at hl 1 rfl) ?_
      refine va_get (v := .int (rp_sk b mn (rp_we b mn mbg))) (D := D) (ci := 11) (C := RX11) (T := TX11) (N := 19) hx hb hts in_X11 hown hK hP 1 rfl rfl 14 (by decide) (hts _ kl_RX11_81) (fun _ h9 => h9) rfl dX11_readCell_74 ?_
      refine lv_isub hx hb dX11_readCell_77 ?_
      obtain ⟨hP, hD⟩ := ty_opPD (E1 := []) (E2 := [(rf_MO mo mw ma mf m0 m1 mu mv u0 u1 iz th mb mn (rp_sk b mn (rp_we b mn mbg)) (rp_sk b mn (rp_we b mn mbg)) mwr (0) mlf men), (rf_RW ct 0 mb 800 b), (rf_RW ct 0 mf 958 g)]) (n := 3) [1, 2, 0] hP hD rfl rfl (by decide +kernel) ty_mva
      refine ty_Ki hP hD hS hA (va_runV (As := [.ref mf, .int (rp_sk b mn (rp_we b mn mbg)), .int ((rp_we b mn (rp_sk b mn (rp_we b mn mbg))) - (rp_sk b mn (rp_we b mn mbg)))]) (rest := []) ⟨hx, hb, hml, hown, hts⟩ (m_named_v l D ct S ws_16 ph xx mo mw ma mf m0 m1 mu mv u0 u1 iz mb th mn (rp_sk b mn (rp_we b mn mbg)) (rp_sk b mn (rp_we b mn mbg)) mwr (0 : Int32) mlf men b mf (rp_sk b mn (rp_we b mn mbg)) ((rp_we b mn (rp_sk b mn (rp_we b mn mbg))) - (rp_sk b mn (rp_we b mn mbg))) g N _ hT hph hy1 (rf_Ls hL).2.2 (by omega) hN) (cm_V 3 hts kc_X11_named ki_RX11 kl_RX11_129 kv_X11_named kx_X11_named kd_X11_named ⟨Nat.le_of_ble_eq_true rfl, Nat.le_of_ble_eq_true rfl⟩) (ty_preE (ci := 11) (q0 := 0) hP hK hD hS hA hX rfl rfl) rfl rfl hl.1 rfl (lv_room (Nat.le_of_ble_eq_true rfl)) dX11_readCell_78 ⟨Nat.le_of_ble_eq_true rfl, Nat.le_of_ble_eq_true rfl⟩) (fun r_17 u H locs hw_18 hP hD hS => ?_)
      obtain ⟨ws_19, rfl⟩ : ∃ z, z = u := ⟨_, rfl⟩
      obtain ⟨hT, hp_20⟩ := hw_18
      have hp_20 : ((r_17 = -1 ∧ ¬ (rm_w b (rp_sk b mn (rp_we b mn mbg)) ((rp_we b mn (rp_sk b mn (rp_we b mn mbg))) - (rp_sk b mn (rp_we b mn mbg)))) ∈ N) ∨ ((0 ≤ r_17.toInt ∧ r_17.toInt < N.length) ∧ (rm_w b (rp_sk b mn (rp_we b mn mbg)) ((rp_we b mn (rp_sk b mn (rp_we b mn mbg))) - (rp_sk b mn (rp_we b mn mbg)))) ∈ N)) ∧ r_17 = rq_ix N (rm_w b (rp_sk b mn (rp_we b mn mbg)) ((rp_we b mn (rp_sk b mn (rp_we b mn mbg))) - (rp_sk b mn (rp_we b mn mbg)))) N.length := hp_20
      obtain ⟨hP, hD⟩ := ty_shPD (w2 := ([(rf_MO mo mw ma mf m0 m1 mu mv u0 u1 iz th mb mn (rp_sk b mn (rp_we b mn mbg)) (rp_sk b mn (rp_we b mn mbg)) mwr (0) mlf men), (rf_RW ct 0 mb 800 b), (rf_RW ct 0 mf 958 g)] ++ ws_19)) hP hD rfl
      obtain ⟨hnd_21, hix_22⟩ := hp_20
      have hww := rm_ww (b := b) (n := mn) (p := (rp_sk b mn (rp_we b mn mbg))) (m := ((rp_we b mn (rp_sk b mn (rp_we b mn mbg))) - (rp_sk b mn (rp_we b mn mbg)))) hsz.1
      rw [hww] at hnd_21 hix_22
      refine lv_istore_n (lv' := [(2, .int r_17), (1, .int (244 + (54 * (g 9)))), (0, .ref mo)]) hx hb dX11_readCell_81 rfl hl (by decide) rfl (fun ls hl => ?_)
      refine lv_iload_n hx hb dX11_readCell_82 rfl (lv_at hl 0 rfl) ?_
      refine lv_iconst (v := (-1)) hx hb dX11_readCell_83 (by decide) ?_
      refine lv_icmp_ne (tgt := 93) hx hb dX11_readCell_84 (by decide) (fun hc_23 => ?_) (fun hc_23 => ?_)
      · have hin := rm_m2 hnd_21 hc_23
        have hn1 := hN.1
        have hln : (rp_w b mn (rp_sk b mn (rp_we b mn mbg))).length ≤ 6 := by obtain ⟨i9, hi9, e9⟩ := List.getElem_of_mem hin.2; have q9 := (hN.2 i9 _ (by rw [List.getElem?_eq_getElem hi9, e9])).2.2; exact q9
        have hl0 := rm_l0 (b := b) (n := mn) (w := mbg) (N := N) (nc := (g 9).toInt) (fun z => by have := rf_n6 (rf_Ls hL).1 hc_1; omega) (rm_let hc_13) ⟨hin.2, hln⟩
        refine lv_aload_n hx hb dX11_readCell_93 rfl (lv_at hl 2 rfl) ?_
        obtain ⟨hP, hD⟩ := ty_opPD (E1 := [(rf_RW ct 0 mf 958 g)]) (E2 := [(rf_MO mo mw ma mf m0 m1 mu mv u0 u1 iz th mb mn (rp_sk b mn (rp_we b mn mbg)) (rp_sk b mn (rp_we b mn mbg)) mwr (0) mlf men), (rf_RW ct 0 mb 800 b)]) (n := 3) [2, 0, 1] hP hD rfl rfl (by decide +kernel) ty_mva
        refine ty_Ki hP hD hS hA (va_runV (As := []) (rest := []) ⟨hx, hb, hml, hown, hts⟩ (m_X11_passes l D ct S ws_19 ph xx mo mw ma mf m0 m1 mu mv u0 u1 iz mb th mn (rp_sk b mn (rp_we b mn mbg)) (rp_sk b mn (rp_we b mn mbg)) mwr (0 : Int32) mlf men b _ hT hph hy1 hmn (by omega)) (cm_V 0 hts kc_X11_passes ki_RX11 kl_RX11_133 kv_X11_passes kx_X11_passes kd_X11_passes ⟨Nat.le_of_ble_eq_true rfl, Nat.le_of_ble_eq_true rfl⟩) (ty_preE (ci := 11) (q0 := 1) hP hK hD hS hA hX rfl rfl) rfl rfl hl.1 rfl (lv_room (Nat.le_of_ble_eq_true rfl)) dX11_readCell_94 ⟨Nat.le_of_ble_eq_true rfl, Nat.le_of_ble_eq_true rfl⟩) (fun r_24 u H locs hw_25 hP hD hS => ?_)
        obtain ⟨ws_26, rfl⟩ : ∃ z, z = u := ⟨_, rfl⟩
        obtain ⟨hT, rfl⟩ := hw_25
        obtain ⟨hP, hD⟩ := ty_shPD (w2 := ([(rf_RW ct 0 mf 958 g), (rf_MO mo mw ma mf m0 m1 mu mv u0 u1 iz th mb mn (rp_we b mn (rp_sk b mn (rp_we b mn mbg))) (rp_sk b mn (rp_we b mn mbg)) mwr (0) mlf men), (rf_RW ct 0 mb 800 b)] ++ ws_26)) hP hD rfl
        have hs_27 := rp_we_b (b := b) (p := (rp_sk b mn (rp_we b mn mbg))) hmn.2 (by omega)
        refine lv_pop hx hb dX11_readCell_97 rfl ?_
        refine lv_aload_n hx hb dX11_readCell_98 rfl (lv_at hl 2 rfl) ?_
        refine va_get (v := .ref mf) (D := D) (ci := 11) (C := RX11) (T := TX11) (N := 19) hx hb hts in_X11 hown hK hP 1 rfl rfl 2 (by decide) (hts _ kl_RX11_16) (fun _ h9 => h9) rfl dX11_readCell_99 ?_
        refine lv_iload_n hx hb dX11_readCell_102 rfl (lv_at hl 1 rfl) ?_
        refine lv_bipush (v := 11) hx hb dX11_readCell_103 (by decide) ?_
        refine lv_iadd hx hb dX11_readCell_105 ?_
        refine lv_iload_n hx hb dX11_readCell_106 rfl (lv_at hl 0 rfl) ?_
        refine va_iast hx hb hK hP hD hS 0 0 rfl rfl (rf_vin (by have := (rf_Ls hL).1; have := rf_n6 (rf_Ls hL).1 hc_1; have e40 := rf_mk9 (a := 244) (b := 54) (k := (g 9)) (A := 244) (B := 54) (by decide) (by decide) (by omega) (by omega) (by omega); have e41 := rf_pk (x := (244 + (54 * (g 9)))) (k := 11) (K := 11) (by decide) (by omega) (by omega); omega)) dX11_readCell_107 (fun H locs hP hD hS => ?_)
        have hP : va_P D vwCl ([(rf_RW ct 0 mf 958 (upd g ((244 + (54 * (g 9))) + 11).toNatClampNeg r_17)), (rf_MO mo mw ma mf m0 m1 mu mv u0 u1 iz th mb mn (rp_we b mn (rp_sk b mn (rp_we b mn mbg))) (rp_sk b mn (rp_we b mn mbg)) mwr (0) mlf men), (rf_RW ct 0 mb 800 b)] ++ ws_26) H := hP
        have hD : va_D A ([(rf_RW ct 0 mf 958 (upd g ((244 + (54 * (g 9))) + 11).toNatClampNeg r_17)), (rf_MO mo mw ma mf m0 m1 mu mv u0 u1 iz th mb mn (rp_we b mn (rp_sk b mn (rp_we b mn mbg))) (rp_sk b mn (rp_we b mn mbg)) mwr (0) mlf men), (rf_RW ct 0 mb 800 b)] ++ ws_26) := hD
        refine lv_aload_n hx hb dX11_readCell_108 rfl (lv_at hl 2 rfl) ?_
        refine lv_iload_n hx hb dX11_readCell_109 rfl (lv_at hl 1 rfl) ?_
        refine lv_bipush (v := 12) hx hb dX11_readCell_110 (by decide) ?_
        refine lv_iadd hx hb dX11_readCell_112 ?_
        refine lv_bipush (v := 100) hx hb dX11_readCell_113 (by decide) ?_
        refine lv_ldc hx hb hown (hts _ kl_RX11_53) dX11_readCell_115 ?_
        obtain ⟨hP, hD⟩ := ty_opPD (E1 := []) (E2 := [(rf_MO mo mw ma mf m0 m1 mu mv u0 u1 iz th mb mn (rp_we b mn (rp_sk b mn (rp_we b mn mbg))) (rp_sk b mn (rp_we b mn mbg)) mwr (0) mlf men), (rf_RW ct 0 mb 800 b), (rf_RW ct 0 mf 958 (upd g ((244 + (54 * (g 9))) + 11).toNatClampNeg r_17))]) (n := 3) [1, 2, 0] hP hD rfl rfl (by decide +kernel) ty_mva
        refine ty_Ki hP hD hS hA (va_runV (As := [.int ((244 + (54 * (g 9))) + 12), .int 100, .int 100000]) (rest := []) ⟨hx, hb, hml, hown, hts⟩ (m_X11_reads l D ct S ws_26 ph xx mo mw ma mf m0 m1 mu mv u0 u1 iz mb th mn (rp_we b mn (rp_sk b mn (rp_we b mn mbg))) (rp_sk b mn (rp_we b mn mbg)) mwr mlf men b ((244 + (54 * (g 9))) + 12) (100 : Int32) (100000 : Int32) (upd g ((244 + (54 * (g 9))) + 11).toNatClampNeg r_17) 100 100000 _ hT hph hy1 hmn (by omega) (by have := (rf_Ls hL).1; have := rf_n6 (rf_Ls hL).1 hc_1; have e40 := rf_mk9 (a := 244) (b := 54) (k := (g 9)) (A := 244) (B := 54) (by decide) (by decide) (by omega) (by omega) (by omega); have e41 := rf_pk (x := (244 + (54 * (g 9)))) (k := 12) (K := 12) (by decide) (by omega) (by omega); omega) (by decide) (by decide)) (cm_V 3 hts kc_X11_reads ki_RX11 kl_RX11_140 kv_X11_reads kx_X11_reads kd_X11_reads ⟨Nat.le_of_ble_eq_true rfl, Nat.le_of_ble_eq_true rfl⟩) (ty_preE (ci := 11) (q0 := 0) hP hK hD hS hA hX rfl rfl) rfl rfl hl.1 rfl (lv_room (Nat.le_of_ble_eq_true rfl)) dX11_readCell_117 ⟨Nat.le_of_ble_eq_true rfl, Nat.le_of_ble_eq_true rfl⟩) (fun r_28 u H locs hw_29 hP hD hS => ?_)
        obtain ⟨ws_30, mpt1_31, mwr1_32, mwk1_33, g1_34⟩ := u
        obtain ⟨hT, hp_35⟩ := hw_29
        have hp_35 : ((rp_we b mn (rp_sk b mn (rp_we b mn mbg))).toInt ≤ mpt1_31.toInt ∧ mpt1_31.toInt ≤ mn.toInt) ∧ ((r_28 = 0 ∧ rm_f (rp_rk b mn 100 100000 (rp_we b mn (rp_sk b mn (rp_we b mn mbg)))) (rp_rp b mn 100 100000 (rp_we b mn (rp_sk b mn (rp_we b mn mbg)))) mwk1_33 mwr1_32) ∨ (r_28 = 1 ∧ (rp_rk b mn 100 100000 (rp_we b mn (rp_sk b mn (rp_we b mn mbg))) = 0 ∧ mwk1_33 = 0 ∧ mpt1_31 = rp_rp b mn 100 100000 (rp_we b mn (rp_sk b mn (rp_we b mn mbg)))) ∧ ∃ v : Int32, (100 ≤ v.toInt ∧ v.toInt ≤ 100000) ∧ v.toInt = rp_rv b mn (rp_we b mn (rp_sk b mn (rp_we b mn mbg))) ∧ g1_34 = upd (upd g ((244 + (54 * (g 9))) + 11).toNatClampNeg r_17) ((244 + (54 * (g 9))) + 12).toInt.toNat v)) := hp_35
        obtain ⟨hP, hD⟩ := ty_shPD (w2 := ([(rf_MO mo mw ma mf m0 m1 mu mv u0 u1 iz th mb mn mpt1_31 (rp_sk b mn (rp_we b mn (rp_sk b mn (rp_we b mn mbg)))) mwr1_32 mwk1_33 mlf men), (rf_RW ct 0 mb 800 b), (rf_RW ct 0 mf 958 g1_34)] ++ ws_30)) hP hD rfl
        obtain ⟨hb_36, hc_37⟩ := hp_35
        have hs_38 := rp_sk_b (b := b) (p := (rp_we b mn (rp_sk b mn (rp_we b mn mbg)))) hmn.2 (by omega)
        rcases hc_37 with ⟨rfl, hz_39⟩ | ⟨rfl, hz_40⟩
        · refine lv_if_eq (tgt := 168) hx hb dX11_readCell_120 (by decide) (fun _ => ?_) (fun hc => absurd (by decide) hc)
          refine lv_iconst (v := 0) hx hb dX11_readCell_168 (by decide) ?_
          exact W.zret (v := 0) hx hb hr (by decide) (fun t ht hW => ⟨⟨0, (ws_30, mpt1_31, (rp_sk b mn (rp_we b mn (rp_sk b mn (rp_we b mn mbg)))), mwr1_32, mwk1_33, g1_34), rfl, ⟨hT, ⟨by omega, Or.inl ⟨rfl, rm_fB (rm_fe (rm_41 hz_39) hl0.1 hl0.2)⟩⟩⟩, by rw [ht]; exact hP, by rw [hAe]; exact hD⟩, hS.F ht⟩) hS.2.2 dX11_readCell_169
        · obtain ⟨⟨hk_41, hwk_42, hpt_43⟩, v_44, hv_45, hvv_46, hg_47⟩ := hz_40
          have hb_48 := hb_36
          subst hwk_42
          subst hpt_43
          refine lv_if_eq (tgt := 168) hx hb dX11_readCell_120 (by decide) (fun hc => absurd hc (by decide)) (fun _ => ?_)
          refine lv_aload_n hx hb dX11_readCell_123 rfl (lv_at hl 2 rfl) ?_
          refine lv_iload_n hx hb dX11_readCell_124 rfl (lv_at hl 1 rfl) ?_
          refine lv_bipush (v := 13) hx hb dX11_readCell_125 (by decide) ?_
          refine lv_iadd hx hb dX11_readCell_127 ?_
          refine lv_iconst (v := 1) hx hb dX11_readCell_128 (by decide) ?_
          refine lv_sipush (v := 500) hx hb dX11_readCell_129 (by decide) ?_
          obtain ⟨hP, hD⟩ := ty_ipPD (E1 := []) (E2 := [(rf_MO mo mw ma mf m0 m1 mu mv u0 u1 iz th mb mn (rp_rp b mn 100 100000 (rp_we b mn (rp_sk b mn (rp_we b mn mbg)))) (rp_sk b mn (rp_we b mn (rp_sk b mn (rp_we b mn mbg)))) mwr1_32 (0) mlf men), (rf_RW ct 0 mb 800 b), (rf_RW ct 0 mf 958 g1_34)]) hP hD rfl ty_mva
          refine ty_Ki hP hD hS hA (va_runV (As := [.int ((244 + (54 * (g 9))) + 13), .int 1, .int 500]) (rest := []) ⟨hx, hb, hml, hown, hts⟩ (m_X11_reads l D ct S ws_30 ph xx mo mw ma mf m0 m1 mu mv u0 u1 iz mb th mn (rp_rp b mn 100 100000 (rp_we b mn (rp_sk b mn (rp_we b mn mbg)))) (rp_sk b mn (rp_we b mn (rp_sk b mn (rp_we b mn mbg)))) mwr1_32 mlf men b ((244 + (54 * (g 9))) + 13) (1 : Int32) (500 : Int32) g1_34 1 500 _ hT hph hy1 hmn (by omega) (by have := (rf_Ls hL).1; have := rf_n6 (rf_Ls hL).1 hc_1; have e40 := rf_mk9 (a := 244) (b := 54) (k := (g 9)) (A := 244) (B := 54) (by decide) (by decide) (by omega) (by omega) (by omega); have e41 := rf_pk (x := (244 + (54 * (g 9)))) (k := 13) (K := 13) (by decide) (by omega) (by omega); omega) (by decide) (by decide)) (cm_V 3 hts kc_X11_reads ki_RX11 kl_RX11_140 kv_X11_reads kx_X11_reads kd_X11_reads ⟨Nat.le_of_ble_eq_true rfl, Nat.le_of_ble_eq_true rfl⟩) (ty_preE (ci := 11) (q0 := 0) hP hK hD hS hA hX rfl rfl) rfl rfl hl.1 rfl (lv_room (Nat.le_of_ble_eq_true rfl)) dX11_readCell_132 ⟨Nat.le_of_ble_eq_true rfl, Nat.le_of_ble_eq_true rfl⟩) (fun r_49 u H locs hw_50 hP hD hS => ?_)
          obtain ⟨ws_51, mpt1_52, mwr1_53, mwk1_54, g1_55⟩ := u
          obtain ⟨hT, hp_56⟩ := hw_50
          have hp_56 : ((rp_rp b mn 100 100000 (rp_we b mn (rp_sk b mn (rp_we b mn mbg)))).toInt ≤ mpt1_52.toInt ∧ mpt1_52.toInt ≤ mn.toInt) ∧ ((r_49 = 0 ∧ rm_f (rp_rk b mn 1 500 (rp_rp b mn 100 100000 (rp_we b mn (rp_sk b mn (rp_we b mn mbg))))) (rp_rp b mn 1 500 (rp_rp b mn 100 100000 (rp_we b mn (rp_sk b mn (rp_we b mn mbg))))) mwk1_54 mwr1_53) ∨ (r_49 = 1 ∧ (rp_rk b mn 1 500 (rp_rp b mn 100 100000 (rp_we b mn (rp_sk b mn (rp_we b mn mbg)))) = 0 ∧ mwk1_54 = 0 ∧ mpt1_52 = rp_rp b mn 1 500 (rp_rp b mn 100 100000 (rp_we b mn (rp_sk b mn (rp_we b mn mbg))))) ∧ ∃ v : Int32, (1 ≤ v.toInt ∧ v.toInt ≤ 500) ∧ v.toInt = rp_rv b mn (rp_rp b mn 100 100000 (rp_we b mn (rp_sk b mn (rp_we b mn mbg)))) ∧ g1_55 = upd g1_34 ((244 + (54 * (g 9))) + 13).toInt.toNat v)) := hp_56
          obtain ⟨hP, hD⟩ := ty_shPD (w2 := ([(rf_MO mo mw ma mf m0 m1 mu mv u0 u1 iz th mb mn mpt1_52 (rp_sk b mn (rp_rp b mn 100 100000 (rp_we b mn (rp_sk b mn (rp_we b mn mbg))))) mwr1_53 mwk1_54 mlf men), (rf_RW ct 0 mb 800 b), (rf_RW ct 0 mf 958 g1_55)] ++ ws_51)) hP hD rfl
          obtain ⟨hb_57, hc_58⟩ := hp_56
          have hs_59 := rp_sk_b (b := b) (p := (rp_rp b mn 100 100000 (rp_we b mn (rp_sk b mn (rp_we b mn mbg))))) hmn.2 (by omega)
          rcases hc_58 with ⟨rfl, hz_60⟩ | ⟨rfl, hz_61⟩
          · refine lv_if_eq (tgt := 168) hx hb dX11_readCell_135 (by decide) (fun _ => ?_) (fun hc => absurd (by decide) hc)
            refine lv_iconst (v := 0) hx hb dX11_readCell_168 (by decide) ?_
            exact W.zret (v := 0) hx hb hr (by decide) (fun t ht hW => ⟨⟨0, (ws_51, mpt1_52, (rp_sk b mn (rp_rp b mn 100 100000 (rp_we b mn (rp_sk b mn (rp_we b mn mbg))))), mwr1_53, mwk1_54, g1_55), rfl, ⟨hT, ⟨by omega, Or.inl ⟨rfl, rm_fB (rm_fe (rm_42 hk_41 hz_60) hl0.1 hl0.2)⟩⟩⟩, by rw [ht]; exact hP, by rw [hAe]; exact hD⟩, hS.F ht⟩) hS.2.2 dX11_readCell_169
          · obtain ⟨⟨hk_62, hwk_63, hpt_64⟩, v_65, hv_66, hvv_67, hg_68⟩ := hz_61
            have hb_69 := hb_57
            subst hwk_63
            subst hpt_64
            refine lv_if_eq (tgt := 168) hx hb dX11_readCell_135 (by decide) (fun hc => absurd hc (by decide)) (fun _ => ?_)
            refine lv_aload_n hx hb dX11_readCell_138 rfl (lv_at hl 2 rfl) ?_
            refine lv_iload_n hx hb dX11_readCell_139 rfl (lv_at hl 1 rfl) ?_
            refine lv_bipush (v := 14) hx hb dX11_readCell_140 (by decide) ?_
            refine lv_iadd hx hb dX11_readCell_142 ?_
            refine lv_iconst (v := 0) hx hb dX11_readCell_143 (by decide) ?_
            refine lv_sipush (v := 500) hx hb dX11_readCell_144 (by decide) ?_
            obtain ⟨hP, hD⟩ := ty_ipPD (E1 := []) (E2 := [(rf_MO mo mw ma mf m0 m1 mu mv u0 u1 iz th mb mn (rp_rp b mn 1 500 (rp_rp b mn 100 100000 (rp_we b mn (rp_sk b mn (rp_we b mn mbg))))) (rp_sk b mn (rp_rp b mn 100 100000 (rp_we b mn (rp_sk b mn (rp_we b mn mbg))))) mwr1_53 (0) mlf men), (rf_RW ct 0 mb 800 b), (rf_RW ct 0 mf 958 g1_55)]) hP hD rfl ty_mva
            refine ty_Ki hP hD hS hA (va_runV (As := [.int ((244 + (54 * (g 9))) + 14), .int 0, .int 500]) (rest := []) ⟨hx, hb, hml, hown, hts⟩ (m_X11_reads l D ct S ws_51 ph xx mo mw ma mf m0 m1 mu mv u0 u1 iz mb th mn (rp_rp b mn 1 500 (rp_rp b mn 100 100000 (rp_we b mn (rp_sk b mn (rp_we b mn mbg))))) (rp_sk b mn (rp_rp b mn 100 100000 (rp_we b mn (rp_sk b mn (rp_we b mn mbg))))) mwr1_53 mlf men b ((244 + (54 * (g 9))) + 14) (0 : Int32) (500 : Int32) g1_55 0 500 _ hT hph hy1 hmn (by omega) (by have := (rf_Ls hL).1; have := rf_n6 (rf_Ls hL).1 hc_1; have e40 := rf_mk9 (a := 244) (b := 54) (k := (g 9)) (A := 244) (B := 54) (by decide) (by decide) (by omega) (by omega) (by omega); have e41 := rf_pk (x := (244 + (54 * (g 9)))) (k := 14) (K := 14) (by decide) (by omega) (by omega); omega) (by decide) (by decide)) (cm_V 3 hts kc_X11_reads ki_RX11 kl_RX11_140 kv_X11_reads kx_X11_reads kd_X11_reads ⟨Nat.le_of_ble_eq_true rfl, Nat.le_of_ble_eq_true rfl⟩) (ty_preE (ci := 11) (q0 := 0) hP hK hD hS hA hX rfl rfl) rfl rfl hl.1 rfl (lv_room (Nat.le_of_ble_eq_true rfl)) dX11_readCell_147 ⟨Nat.le_of_ble_eq_true rfl, Nat.le_of_ble_eq_true rfl⟩) (fun r_70 u H locs hw_71 hP hD hS => ?_)
            obtain ⟨ws_72, mpt1_73, mwr1_74, mwk1_75, g1_76⟩ := u
            obtain ⟨hT, hp_77⟩ := hw_71
            have hp_77 : ((rp_rp b mn 1 500 (rp_rp b mn 100 100000 (rp_we b mn (rp_sk b mn (rp_we b mn mbg))))).toInt ≤ mpt1_73.toInt ∧ mpt1_73.toInt ≤ mn.toInt) ∧ ((r_70 = 0 ∧ rm_f (rp_rk b mn 0 500 (rp_rp b mn 1 500 (rp_rp b mn 100 100000 (rp_we b mn (rp_sk b mn (rp_we b mn mbg)))))) (rp_rp b mn 0 500 (rp_rp b mn 1 500 (rp_rp b mn 100 100000 (rp_we b mn (rp_sk b mn (rp_we b mn mbg)))))) mwk1_75 mwr1_74) ∨ (r_70 = 1 ∧ (rp_rk b mn 0 500 (rp_rp b mn 1 500 (rp_rp b mn 100 100000 (rp_we b mn (rp_sk b mn (rp_we b mn mbg))))) = 0 ∧ mwk1_75 = 0 ∧ mpt1_73 = rp_rp b mn 0 500 (rp_rp b mn 1 500 (rp_rp b mn 100 100000 (rp_we b mn (rp_sk b mn (rp_we b mn mbg)))))) ∧ ∃ v : Int32, (0 ≤ v.toInt ∧ v.toInt ≤ 500) ∧ v.toInt = rp_rv b mn (rp_rp b mn 1 500 (rp_rp b mn 100 100000 (rp_we b mn (rp_sk b mn (rp_we b mn mbg))))) ∧ g1_76 = upd g1_55 ((244 + (54 * (g 9))) + 14).toInt.toNat v)) := hp_77
            obtain ⟨hP, hD⟩ := ty_shPD (w2 := ([(rf_MO mo mw ma mf m0 m1 mu mv u0 u1 iz th mb mn mpt1_73 (rp_sk b mn (rp_rp b mn 1 500 (rp_rp b mn 100 100000 (rp_we b mn (rp_sk b mn (rp_we b mn mbg)))))) mwr1_74 mwk1_75 mlf men), (rf_RW ct 0 mb 800 b), (rf_RW ct 0 mf 958 g1_76)] ++ ws_72)) hP hD rfl
            obtain ⟨hb_78, hc_79⟩ := hp_77
            have hs_80 := rp_sk_b (b := b) (p := (rp_rp b mn 1 500 (rp_rp b mn 100 100000 (rp_we b mn (rp_sk b mn (rp_we b mn mbg)))))) hmn.2 (by omega)
            rcases hc_79 with ⟨rfl, hz_81⟩ | ⟨rfl, hz_82⟩
            · refine lv_if_eq (tgt := 168) hx hb dX11_readCell_150 (by decide) (fun _ => ?_) (fun hc => absurd (by decide) hc)
              refine lv_iconst (v := 0) hx hb dX11_readCell_168 (by decide) ?_
              exact W.zret (v := 0) hx hb hr (by decide) (fun t ht hW => ⟨⟨0, (ws_72, mpt1_73, (rp_sk b mn (rp_rp b mn 1 500 (rp_rp b mn 100 100000 (rp_we b mn (rp_sk b mn (rp_we b mn mbg)))))), mwr1_74, mwk1_75, g1_76), rfl, ⟨hT, ⟨by omega, Or.inl ⟨rfl, rm_fB (rm_fe (rm_43 (rm_4d hk_41 hk_62) hz_81) hl0.1 hl0.2)⟩⟩⟩, by rw [ht]; exact hP, by rw [hAe]; exact hD⟩, hS.F ht⟩) hS.2.2 dX11_readCell_169
            · obtain ⟨⟨hk_83, hwk_84, hpt_85⟩, v_86, hv_87, hvv_88, hg_89⟩ := hz_82
              have hb_90 := hb_78
              subst hwk_84
              subst hpt_85
              refine lv_if_eq (tgt := 168) hx hb dX11_readCell_150 (by decide) (fun hc => absurd hc (by decide)) (fun _ => ?_)
              refine lv_aload_n hx hb dX11_readCell_153 rfl (lv_at hl 2 rfl) ?_
              refine lv_iload_n hx hb dX11_readCell_154 rfl (lv_at hl 1 rfl) ?_
              refine lv_bipush (v := 15) hx hb dX11_readCell_155 (by decide) ?_
              refine lv_iadd hx hb dX11_readCell_157 ?_
              refine lv_iconst (v := 1) hx hb dX11_readCell_158 (by decide) ?_
              refine lv_sipush (v := 200) hx hb dX11_readCell_159 (by decide) ?_
              obtain ⟨hP, hD⟩ := ty_ipPD (E1 := []) (E2 := [(rf_MO mo mw ma mf m0 m1 mu mv u0 u1 iz th mb mn (rp_rp b mn 0 500 (rp_rp b mn 1 500 (rp_rp b mn 100 100000 (rp_we b mn (rp_sk b mn (rp_we b mn mbg)))))) (rp_sk b mn (rp_rp b mn 1 500 (rp_rp b mn 100 100000 (rp_we b mn (rp_sk b mn (rp_we b mn mbg)))))) mwr1_74 (0) mlf men), (rf_RW ct 0 mb 800 b), (rf_RW ct 0 mf 958 g1_76)]) hP hD rfl ty_mva
              refine ty_Ki hP hD hS hA (va_runV (As := [.int ((244 + (54 * (g 9))) + 15), .int 1, .int 200]) (rest := []) ⟨hx, hb, hml, hown, hts⟩ (m_X11_reads l D ct S ws_72 ph xx mo mw ma mf m0 m1 mu mv u0 u1 iz mb th mn (rp_rp b mn 0 500 (rp_rp b mn 1 500 (rp_rp b mn 100 100000 (rp_we b mn (rp_sk b mn (rp_we b mn mbg)))))) (rp_sk b mn (rp_rp b mn 1 500 (rp_rp b mn 100 100000 (rp_we b mn (rp_sk b mn (rp_we b mn mbg)))))) mwr1_74 mlf men b ((244 + (54 * (g 9))) + 15) (1 : Int32) (200 : Int32) g1_76 1 200 _ hT hph hy1 hmn (by omega) (by have := (rf_Ls hL).1; have := rf_n6 (rf_Ls hL).1 hc_1; have e40 := rf_mk9 (a := 244) (b := 54) (k := (g 9)) (A := 244) (B := 54) (by decide) (by decide) (by omega) (by omega) (by omega); have e41 := rf_pk (x := (244 + (54 * (g 9)))) (k := 15) (K := 15) (by decide) (by omega) (by omega); omega) (by decide) (by decide)) (cm_V 3 hts kc_X11_reads ki_RX11 kl_RX11_140 kv_X11_reads kx_X11_reads kd_X11_reads ⟨Nat.le_of_ble_eq_true rfl, Nat.le_of_ble_eq_true rfl⟩) (ty_preE (ci := 11) (q0 := 0) hP hK hD hS hA hX rfl rfl) rfl rfl hl.1 rfl (lv_room (Nat.le_of_ble_eq_true rfl)) dX11_readCell_162 ⟨Nat.le_of_ble_eq_true rfl, Nat.le_of_ble_eq_true rfl⟩) (fun r_91 u H locs hw_92 hP hD hS => ?_)
              obtain ⟨ws_93, mpt1_94, mwr1_95, mwk1_96, g1_97⟩ := u
              obtain ⟨hT, hp_98⟩ := hw_92
              have hp_98 : ((rp_rp b mn 0 500 (rp_rp b mn 1 500 (rp_rp b mn 100 100000 (rp_we b mn (rp_sk b mn (rp_we b mn mbg)))))).toInt ≤ mpt1_94.toInt ∧ mpt1_94.toInt ≤ mn.toInt) ∧ ((r_91 = 0 ∧ rm_f (rp_rk b mn 1 200 (rp_rp b mn 0 500 (rp_rp b mn 1 500 (rp_rp b mn 100 100000 (rp_we b mn (rp_sk b mn (rp_we b mn mbg))))))) (rp_rp b mn 1 200 (rp_rp b mn 0 500 (rp_rp b mn 1 500 (rp_rp b mn 100 100000 (rp_we b mn (rp_sk b mn (rp_we b mn mbg))))))) mwk1_96 mwr1_95) ∨ (r_91 = 1 ∧ (rp_rk b mn 1 200 (rp_rp b mn 0 500 (rp_rp b mn 1 500 (rp_rp b mn 100 100000 (rp_we b mn (rp_sk b mn (rp_we b mn mbg)))))) = 0 ∧ mwk1_96 = 0 ∧ mpt1_94 = rp_rp b mn 1 200 (rp_rp b mn 0 500 (rp_rp b mn 1 500 (rp_rp b mn 100 100000 (rp_we b mn (rp_sk b mn (rp_we b mn mbg))))))) ∧ ∃ v : Int32, (1 ≤ v.toInt ∧ v.toInt ≤ 200) ∧ v.toInt = rp_rv b mn (rp_rp b mn 0 500 (rp_rp b mn 1 500 (rp_rp b mn 100 100000 (rp_we b mn (rp_sk b mn (rp_we b mn mbg)))))) ∧ g1_97 = upd g1_76 ((244 + (54 * (g 9))) + 15).toInt.toNat v)) := hp_98
              obtain ⟨hP, hD⟩ := ty_shPD (w2 := ([(rf_MO mo mw ma mf m0 m1 mu mv u0 u1 iz th mb mn mpt1_94 (rp_sk b mn (rp_rp b mn 0 500 (rp_rp b mn 1 500 (rp_rp b mn 100 100000 (rp_we b mn (rp_sk b mn (rp_we b mn mbg))))))) mwr1_95 mwk1_96 mlf men), (rf_RW ct 0 mb 800 b), (rf_RW ct 0 mf 958 g1_97)] ++ ws_93)) hP hD rfl
              obtain ⟨hb_99, hc_100⟩ := hp_98
              have hs_101 := rp_sk_b (b := b) (p := (rp_rp b mn 0 500 (rp_rp b mn 1 500 (rp_rp b mn 100 100000 (rp_we b mn (rp_sk b mn (rp_we b mn mbg))))))) hmn.2 (by omega)
              rcases hc_100 with ⟨rfl, hz_102⟩ | ⟨rfl, hz_103⟩
              · refine lv_if_ne (tgt := 170) hx hb dX11_readCell_165 (by decide) (fun hc => absurd (by decide) hc) (fun _ => ?_)
                refine lv_iconst (v := 0) hx hb dX11_readCell_168 (by decide) ?_
                exact W.zret (v := 0) hx hb hr (by decide) (fun t ht hW => ⟨⟨0, (ws_93, mpt1_94, (rp_sk b mn (rp_rp b mn 0 500 (rp_rp b mn 1 500 (rp_rp b mn 100 100000 (rp_we b mn (rp_sk b mn (rp_we b mn mbg))))))), mwr1_95, mwk1_96, g1_97), rfl, ⟨hT, ⟨by omega, Or.inl ⟨rfl, rm_fB (rm_fe (rm_44 (rm_4e (rm_4d hk_41 hk_62) hk_83) hz_102) hl0.1 hl0.2)⟩⟩⟩, by rw [ht]; exact hP, by rw [hAe]; exact hD⟩, hS.F ht⟩) hS.2.2 dX11_readCell_169
              · obtain ⟨⟨hk_104, hwk_105, hpt_106⟩, v_107, hv_108, hvv_109, hg_110⟩ := hz_103
                have hb_111 := hb_99
                subst hwk_105
                subst hpt_106
                refine lv_if_ne (tgt := 170) hx hb dX11_readCell_165 (by decide) (fun _ => ?_) (fun hc => absurd hc (by decide))
                refine lv_aload_n hx hb dX11_readCell_170 rfl (lv_at hl 2 rfl) ?_
                refine va_get (v := .ref mf) (D := D) (ci := 11) (C := RX11) (T := TX11) (N := 19) hx hb hts in_X11 hown hK hP 0 rfl rfl 2 (by decide) (hts _ kl_RX11_16) (fun _ h9 => h9) rfl dX11_readCell_171 ?_
                refine lv_bipush (v := 9) hx hb dX11_readCell_174 (by decide) ?_
                refine lv_dup2_11 hx hb dX11_readCell_176 rfl rfl ?_
                refine va_iald hx hb hK hP 2 0 rfl rfl (cm_vin (by decide)) dX11_readCell_177 ?_
                refine cm_cst (y := (g1_97 9)) (by first | rfl | decide +kernel) ?_
                refine lv_iconst (v := 1) hx hb dX11_readCell_178 (by decide) ?_
                refine lv_iadd hx hb dX11_readCell_179 ?_
                refine va_iast hx hb hK hP hD hS 2 0 rfl rfl (cm_vin (by decide)) dX11_readCell_180 (fun H locs hP hD hS => ?_)
                have hP : va_P D vwCl ([(rf_MO mo mw ma mf m0 m1 mu mv u0 u1 iz th mb mn (rp_rp b mn 1 200 (rp_rp b mn 0 500 (rp_rp b mn 1 500 (rp_rp b mn 100 100000 (rp_we b mn (rp_sk b mn (rp_we b mn mbg))))))) (rp_sk b mn (rp_rp b mn 0 500 (rp_rp b mn 1 500 (rp_rp b mn 100 100000 (rp_we b mn (rp_sk b mn (rp_we b mn mbg))))))) mwr1_95 (0) mlf men), (rf_RW ct 0 mb 800 b), (rf_RW ct 0 mf 958 (upd g1_97 (9 : Int32).toNatClampNeg ((g1_97 9) + 1)))] ++ ws_93) H := hP
                have hD : va_D A ([(rf_MO mo mw ma mf m0 m1 mu mv u0 u1 iz th mb mn (rp_rp b mn 1 200 (rp_rp b mn 0 500 (rp_rp b mn 1 500 (rp_rp b mn 100 100000 (rp_we b mn (rp_sk b mn (rp_we b mn mbg))))))) (rp_sk b mn (rp_rp b mn 0 500 (rp_rp b mn 1 500 (rp_rp b mn 100 100000 (rp_we b mn (rp_sk b mn (rp_we b mn mbg))))))) mwr1_95 (0) mlf men), (rf_RW ct 0 mb 800 b), (rf_RW ct 0 mf 958 (upd g1_97 (9 : Int32).toNatClampNeg ((g1_97 9) + 1)))] ++ ws_93) := hD
                refine lv_iconst (v := 1) hx hb dX11_readCell_181 (by decide) ?_
                exact W.zret (v := 1) hx hb hr (by decide) (fun t ht hW => ⟨⟨1, (ws_93, (rp_rp b mn 1 200 (rp_rp b mn 0 500 (rp_rp b mn 1 500 (rp_rp b mn 100 100000 (rp_we b mn (rp_sk b mn (rp_we b mn mbg))))))), (rp_sk b mn (rp_rp b mn 0 500 (rp_rp b mn 1 500 (rp_rp b mn 100 100000 (rp_we b mn (rp_sk b mn (rp_we b mn mbg))))))), mwr1_95, (0 : Int32), (upd g1_97 (9 : Int32).toNatClampNeg ((g1_97 9) + 1))), rfl, ⟨hT, ⟨by omega, Or.inr ⟨rfl, hl0.1.trans (rm_4z (rm_4e (rm_4d hk_41 hk_62) hk_83) hk_104).1, rfl, (by rw [hl0.2]; exact congrArg (rp_sk b mn) (rm_4z (rm_4e (rm_4d hk_41 hk_62) hk_83) hk_104).2.symm), rf_Lcl hL (rf_n6 (rf_Ls hL).1 hc_1) (by have := (rf_Ls hL).1; have := rf_n6 (rf_Ls hL).1 hc_1; have e40 := rf_mk9 (a := 244) (b := 54) (k := (g 9)) (A := 244) (B := 54) (by decide) (by decide) (by omega) (by omega) (by omega); omega) ⟨hin.1.1, by omega⟩ hg_47 hg_68 hg_89 hg_110 hv_45 hv_66 hv_87 hv_108, (by have := (rf_Ls hL).1; have := rf_n6 (rf_Ls hL).1 hc_1; have e40 := rf_mk9 (a := 244) (b := 54) (k := (g 9)) (A := 244) (B := 54) (by decide) (by decide) (by omega) (by omega) (by omega); have := (rf_Ls hL).2.2; exact rm_clN hN hn1 (by omega) hg_47 hg_68 hg_89 hg_110), (by have := (rf_Ls hL).1; have := rf_n6 (rf_Ls hL).1 hc_1; have e40 := rf_mk9 (a := 244) (b := 54) (k := (g 9)) (A := 244) (B := 54) (by decide) (by decide) (by omega) (by omega) (by omega); have := (rf_Ls hL).2.2; exact (rm_cl9 (by omega) hg_47 hg_68 hg_89 hg_110).1), (by have := (rf_Ls hL).1; have := rf_n6 (rf_Ls hL).1 hc_1; have e40 := rf_mk9 (a := 244) (b := 54) (k := (g 9)) (A := 244) (B := 54) (by decide) (by decide) (by omega) (by omega) (by omega); have := (rf_Ls hL).2.2; exact (rm_cl9 (by omega) hg_47 hg_68 hg_89 hg_110).2), (by have := (rf_Ls hL).1; have := rf_n6 (rf_Ls hL).1 hc_1; have e40 := rf_mk9 (a := 244) (b := 54) (k := (g 9)) (A := 244) (B := 54) (by decide) (by decide) (by omega) (by omega) (by omega); have := (rf_Ls hL).2.2; exact rq_cellE ⟨(rf_Ls hL).1.1, rf_n6 (rf_Ls hL).1 hc_1⟩ (by omega) (by rw [show rq_ix N (rp_w b mn (rp_q2 b mn mbg)) N.length = _ from hix_22.symm]; exact hg_47) hg_68 hg_89 hg_110 hvv_46 hvv_67 hvv_88 hvv_109)⟩⟩⟩, by rw [ht]; exact hP, by rw [hAe]; exact hD⟩, hS.F ht⟩) hS.2.2 dX11_readCell_182
      · refine lv_aload_n hx hb dX11_readCell_87 rfl (lv_at hl 2 rfl) ?_
        refine lv_iconst (v := 3) hx hb dX11_readCell_88 (by decide) ?_
        obtain ⟨hP, hD⟩ := ty_opPD (E1 := [(rf_RW ct 0 mb 800 b), (rf_RW ct 0 mf 958 g)]) (E2 := [(rf_MO mo mw ma mf m0 m1 mu mv u0 u1 iz th mb mn (rp_sk b mn (rp_we b mn mbg)) (rp_sk b mn (rp_we b mn mbg)) mwr (0) mlf men)]) (n := 3) [1, 2, 0] hP hD rfl rfl (by decide +kernel) ty_mva
        refine ty_Ki hP hD hS hA (va_runV (As := [.int 3]) (rest := []) ⟨hx, hb, hml, hown, hts⟩ (m_X11_fails l D ct S ws_19 ph xx mo mw ma mf m0 m1 mu mv u0 u1 iz mb th mn (rp_sk b mn (rp_we b mn mbg)) (rp_sk b mn (rp_we b mn mbg)) mwr mlf men (3 : Int32) _ hT hph hy1) (cm_V 1 hts kc_X11_fails ki_RX11 kl_RX11_112 kv_X11_fails kx_X11_fails kd_X11_fails ⟨Nat.le_of_ble_eq_true rfl, Nat.le_of_ble_eq_true rfl⟩) (ty_preE (ci := 11) (q0 := 2) hP hK hD hS hA hX rfl rfl) rfl rfl hl.1 rfl (lv_room (Nat.le_of_ble_eq_true rfl)) dX11_readCell_89 ⟨Nat.le_of_ble_eq_true rfl, Nat.le_of_ble_eq_true rfl⟩) (fun r_112 u H locs hw_113 hP hD hS => ?_)
        obtain ⟨ws_114, rfl⟩ : ∃ z, z = u := ⟨_, rfl⟩
        obtain ⟨hT, rfl⟩ := hw_113
        obtain ⟨hP, hD⟩ := ty_shPD (w2 := ([(rf_RW ct 0 mb 800 b), (rf_RW ct 0 mf 958 g), (rf_MO mo mw ma mf m0 m1 mu mv u0 u1 iz th mb mn (rp_sk b mn (rp_we b mn mbg)) (rp_sk b mn (rp_we b mn mbg)) (rp_sk b mn (rp_we b mn mbg)) (3) mlf men)] ++ ws_114)) hP hD rfl
        obtain ⟨hP, hD⟩ := ty_ordPD (E2 := [(rf_MO mo mw ma mf m0 m1 mu mv u0 u1 iz th mb mn (rp_sk b mn (rp_we b mn mbg)) (rp_sk b mn (rp_we b mn mbg)) (rp_sk b mn (rp_we b mn mbg)) (3) mlf men), (rf_RW ct 0 mb 800 b), (rf_RW ct 0 mf 958 g)]) (n := 3) [2, 0, 1] hP hD rfl rfl (by decide +kernel)
        exact W.zret (v := 0) hx hb hr (by decide) (fun t ht hW => ⟨⟨0, (ws_114, (rp_sk b mn (rp_we b mn mbg)), (rp_sk b mn (rp_we b mn mbg)), (rp_sk b mn (rp_we b mn mbg)), (3 : Int32), g), rfl, ⟨hT, ⟨by omega, Or.inl ⟨rfl, rm_fB (rm_l3 (fun z => by have := rf_n6 (rf_Ls hL).1 hc_1; omega) (rm_let hc_13) (rm_m1 hnd_21 hc_23))⟩⟩⟩, by rw [ht]; exact hP, by rw [hAe]; exact hD⟩, hS.F ht⟩) hS.2.2 dX11_readCell_92
    · refine lv_aload_n hx hb dX11_readCell_54 rfl (lv_at hl 1 rfl) ?_
      refine lv_iconst (v := 1) hx hb dX11_readCell_55 (by decide) ?_
      obtain ⟨hP, hD⟩ := ty_opPD (E1 := [(rf_RW ct 0 mf 958 g), (rf_RW ct 0 mb 800 b)]) (E2 := [(rf_MO mo mw ma mf m0 m1 mu mv u0 u1 iz th mb mn (rp_sk b mn (rp_we b mn mbg)) (rp_sk b mn (rp_we b mn mbg)) mwr (0) mlf men)]) (n := 3) [0, 2, 1] hP hD rfl rfl (by decide +kernel) ty_mva
      refine ty_Ki hP hD hS hA (va_runV (As := [.int 1]) (rest := []) ⟨hx, hb, hml, hown, hts⟩ (m_X11_fails l D ct S ws_12 ph xx mo mw ma mf m0 m1 mu mv u0 u1 iz mb th mn (rp_sk b mn (rp_we b mn mbg)) (rp_sk b mn (rp_we b mn mbg)) mwr mlf men (1 : Int32) _ hT hph hy1) (cm_V 1 hts kc_X11_fails ki_RX11 kl_RX11_112 kv_X11_fails kx_X11_fails kd_X11_fails ⟨Nat.le_of_ble_eq_true rfl, Nat.le_of_ble_eq_true rfl⟩) (ty_preE (ci := 11) (q0 := 2) hP hK hD hS hA hX rfl rfl) rfl rfl hl.1 rfl (lv_room (Nat.le_of_ble_eq_true rfl)) dX11_readCell_56 ⟨Nat.le_of_ble_eq_true rfl, Nat.le_of_ble_eq_true rfl⟩) (fun r_115 u H locs hw_116 hP hD hS => ?_)
      obtain ⟨ws_117, rfl⟩ : ∃ z, z = u := ⟨_, rfl⟩
      obtain ⟨hT, rfl⟩ := hw_116
      obtain ⟨hP, hD⟩ := ty_shPD (w2 := ([(rf_RW ct 0 mf 958 g), (rf_RW ct 0 mb 800 b), (rf_MO mo mw ma mf m0 m1 mu mv u0 u1 iz th mb mn (rp_sk b mn (rp_we b mn mbg)) (rp_sk b mn (rp_we b mn mbg)) (rp_sk b mn (rp_we b mn mbg)) (1) mlf men)] ++ ws_117)) hP hD rfl
      obtain ⟨hP, hD⟩ := ty_ordPD (E2 := [(rf_MO mo mw ma mf m0 m1 mu mv u0 u1 iz th mb mn (rp_sk b mn (rp_we b mn mbg)) (rp_sk b mn (rp_we b mn mbg)) (rp_sk b mn (rp_we b mn mbg)) (1) mlf men), (rf_RW ct 0 mb 800 b), (rf_RW ct 0 mf 958 g)]) (n := 3) [2, 1, 0] hP hD rfl rfl (by decide +kernel)
      exact W.zret (v := 0) hx hb hr (by decide) (fun t ht hW => ⟨⟨0, (ws_117, (rp_sk b mn (rp_we b mn mbg)), (rp_sk b mn (rp_we b mn mbg)), (rp_sk b mn (rp_we b mn mbg)), (1 : Int32), g), rfl, ⟨hT, ⟨by omega, Or.inl ⟨rfl, rm_fB (rm_l1 (fun z => by have := rf_n6 (rf_Ls hL).1 hc_1; omega) (rm_letN hc_13))⟩⟩⟩, by rw [ht]; exact hP, by rw [hAe]; exact hD⟩, hS.F ht⟩) hS.2.2 dX11_readCell_59
  · refine lv_aload_n hx hb dX11_readCell_12 rfl (lv_at hl 0 rfl) ?_
    refine lv_iconst (v := 4) hx hb dX11_readCell_13 (by decide) ?_
    obtain ⟨hP, hD⟩ := ty_opPD (E1 := [(rf_RW ct 0 mb 800 b), (rf_RW ct 0 mf 958 g)]) (E2 := [(rf_MO mo mw ma mf m0 m1 mu mv u0 u1 iz th mb mn mpt mbg mwr (0) mlf men)]) (n := 3) [1, 2, 0] hP hD rfl rfl (by decide +kernel) ty_mva
    refine ty_Ki hP hD hS hA (va_runV (As := [.int 4]) (rest := []) ⟨hx, hb, hml, hown, hts⟩ (m_X11_fails l D ct S ws ph xx mo mw ma mf m0 m1 mu mv u0 u1 iz mb th mn mpt mbg mwr mlf men (4 : Int32) _ hT hph hy1) (cm_V 1 hts kc_X11_fails ki_RX11 kl_RX11_112 kv_X11_fails kx_X11_fails kd_X11_fails ⟨Nat.le_of_ble_eq_true rfl, Nat.le_of_ble_eq_true rfl⟩) (ty_preE (ci := 11) (q0 := 2) hP hK hD hS hA hX rfl rfl) rfl rfl hl.1 rfl (lv_room (Nat.le_of_ble_eq_true rfl)) dX11_readCell_14 ⟨Nat.le_of_ble_eq_true rfl, Nat.le_of_ble_eq_true rfl⟩) (fun r_118 u H locs hw_119 hP hD hS => ?_)
    obtain ⟨ws_120, rfl⟩ : ∃ z, z = u := ⟨_, rfl⟩
    obtain ⟨hT, rfl⟩ := hw_119
    obtain ⟨hP, hD⟩ := ty_shPD (w2 := ([(rf_RW ct 0 mb 800 b), (rf_RW ct 0 mf 958 g), (rf_MO mo mw ma mf m0 m1 mu mv u0 u1 iz th mb mn mpt mbg mbg (4) mlf men)] ++ ws_120)) hP hD rfl
    obtain ⟨hP, hD⟩ := ty_ordPD (E2 := [(rf_MO mo mw ma mf m0 m1 mu mv u0 u1 iz th mb mn mpt mbg mbg (4) mlf men), (rf_RW ct 0 mb 800 b), (rf_RW ct 0 mf 958 g)]) (n := 3) [2, 0, 1] hP hD rfl rfl (by decide +kernel)
    exact W.zret (v := 0) hx hb hr (by decide) (fun t ht hW => ⟨⟨0, (ws_120, mpt, mbg, mbg, (4 : Int32), g), rfl, ⟨hT, ⟨by omega, Or.inl ⟨rfl, rm_fB (rm_l6 (rm_E6 hc_1))⟩⟩⟩, by rw [ht]; exact hP, by rw [hAe]; exact hD⟩, hS.F ht⟩) hS.2.2 dX11_readCell_17
