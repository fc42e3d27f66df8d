set_option maxRecDepth 100000 in
set_option maxHeartbeats 4000000 in
theorem m_X11_readStatement (l : Launch) (D : va_G) (ct : Nat → ClassId) (S : ty_S) (ws : va_W) (ph : va_W → Prop) (xx : Nat → Nat → Nat → Prop) (mo : Nat) (mw : Nat) (ma : Nat) (mf : Nat) (m0 : Nat) (m1 : Nat) (mu : Nat) (mv : Nat) (u0 : Nat) (u1 : Nat) (iz : Nat) (mb : Nat) (th : Int32) (mn : Int32) (mpt : Int32) (mbg : Int32) (mwr : Int32) (mlf : Int32) (men : Int32) (b : Nat → Int32) (g : Nat → Int32) (N : List (List Int32)) (sz : Nat) (hT : ty_V ct S ph ws) (hph : ty_C ph xx) (hy1 : ty_y1 xx) (hmn : 0 ≤ mn.toInt ∧ mn.toInt ≤ 800) (hpt : 0 ≤ mpt.toInt ∧ mpt.toInt ≤ mn.toInt) (hL : rf_L g) (hN : rm_N N g) : Met l yX11_readStatement (ws_ yX11_readStatement cX11_readStatement 1 (some .boolean)) ({ frames := 7, cells := 0, slots := 0, locals := 155 } : Room) (va_Pc [.ref mo] (cmP D ct sz ([(rf_MO mo mw ma mf m0 m1 mu mv u0 u1 iz th mb mn mpt mbg mwr (0) mlf men), (rf_RW ct 0 mb 800 b), (rf_RW ct 0 mf 958 g)] ++ ws))) (va_Qi (fun (r : Int32) (u : va_W × Int32 × Int32 × Int32 × Int32 × (Nat → Int32)) => match u with | (u9, mpt1, mbg1, mwr1, mwk1, g1) => ty_V ct S ph u9 ∧ ((mpt.toInt ≤ mpt1.toInt ∧ mpt1.toInt ≤ mn.toInt) ∧ 0 ≤ mbg1.toInt ∧ mbg1.toInt ≤ mn.toInt) ∧ ((r = 0 ∧ rm_B b mn (rp_tk b mn N (g 10).toInt (g 9).toInt (rp_sk b mn mpt)) (rp_tp b mn N (g 10).toInt (g 9).toInt (rp_sk b mn mpt)) mwk1 mwr1) ∨ (r = 1 ∧ (rp_tk b mn N (g 10).toInt (g 9).toInt (rp_sk b mn mpt)) = 0 ∧ mwk1 = 0 ∧ rp_sk b mn mpt1 = rp_sk b mn (rp_tp b mn N (g 10).toInt (g 9).toInt (rp_sk b mn mpt)) ∧ rf_L g1 ∧ rm_N (rp_tN b mn N (rp_sk b mn mpt)) g1 ∧ (g1 9).toInt = rp_tc b mn (rp_sk b mn mpt) (g 9).toInt ∧ (g1 10).toInt = rp_tg b mn (rp_sk b mn mpt) (g 10).toInt ∧ g1 = rq_t b mn N (rp_sk b mn mpt) g))) (cmB D ([(rf_MO mo mw ma mf m0 m1 mu mv u0 u1 iz th mb mn mpt mbg mwr (0) mlf men), (rf_RW ct 0 mb 800 b), (rf_RW ct 0 mf 958 g)] ++ ws) sz (fun (u : va_W × Int32 × Int32 × Int32 × Int32 × (Nat → Int32)) => match u with | (u9, mpt1, mbg1, mwr1, mwk1, g1) => ([(rf_MO mo mw ma mf m0 m1 mu mv u0 u1 iz th mb mn mpt1 mbg1 mwr1 mwk1 mlf men), (rf_RW ct 0 mb 800 b), (rf_RW ct 0 mf 958 g1)] ++ u9))) (va_A ([(rf_MO mo mw ma mf m0 m1 mu mv u0 u1 iz th mb mn mpt mbg mwr (0) mlf men), (rf_RW ct 0 mb 800 b), (rf_RW ct 0 mf 958 g)] ++ ws) sz)) 0 0 (va_A ([(rf_MO mo mw ma mf m0 m1 mu mv u0 u1 iz th mb mn mpt mbg mwr (0) mlf men), (rf_RW ct 0 mb 800 b), (rf_RW ct 0 mf 958 g)] ++ ws) sz) := by
  refine Met.ofW (cc := cX11_readStatement) (maxL := 1) (ret := (some .boolean)) (by decide) rfl ?_
  intro p e s m args below meth c s₁ B hml hv
  obtain ⟨rfl, hsz, hP, hK, hD0, hX⟩ := hv
  have hx := B.exec
  have hb := B.bytes
  have hr := B.returns
  have hts := ws_all (atoms_spec (ws := ws_ yX11_readStatement cX11_readStatement 1 (some .boolean)) B.pre)
  have hown : s.vm.findClass RX11 = some m.cls := findClass_of_methodNamed B.named
  have hlocks := B.notSynchronized
  subst hsz
  have hD := hD0.self (sz := s.heap.size)
  generalize hAe : va_A ([(rf_MO mo mw ma mf m0 m1 mu mv u0 u1 iz th mb mn mpt mbg mwr (0) mlf men), (rf_RW ct 0 mb 800 b), (rf_RW ct 0 mf 958 g)] ++ ws) s.heap.size = A at hD hX ⊢
  have hA : ∀ q : Nat, s.heap.size ≤ q → A q := fun q h => by rw [← hAe]; exact Or.inr h
  have hS : va_S A s.heap s.heap [] := va_S.rf
  have hl := lv_entry ([.ref mo]) (n := 1) (Nat.le_of_ble_eq_true rfl)
  rw [lg_entry_eq]
  generalize (lg_sl ([.ref mo]) ++ List.replicate (1 - (lg_sl ([.ref mo])).length) Slot.unset).toArray = ls at hl ⊢
  have hl : lv_has ls 1 [(0, .ref mo)] := hl
  refine lv_aload_n hx hb dX11_readStatement_0 rfl (lv_at hl 0 rfl) ?_
  obtain ⟨hP, hD⟩ := ty_opPD (E1 := [(rf_RW ct 0 mf 958 g)]) (E2 := [(rf_MO mo mw ma mf m0 m1 mu mv u0 u1 iz th mb mn mpt mbg mwr (0) mlf men), (rf_RW ct 0 mb 800 b)]) (n := 3) [2, 0, 1] hP hD rfl rfl (by decide +kernel) ty_mva
  refine ty_Ki hP hD hS hA (va_runV (As := []) (rest := []) ⟨hx, hb, hml, hown, hts⟩ (m_X11_see l D ct S ws ph xx mo mw ma mf m0 m1 mu mv u0 u1 iz mb th mn mpt mbg mwr (0 : Int32) mlf men b _ hT hph hy1 hmn (by omega)) (cm_V 0 hts kc_X11_see ki_RX11 kl_RX11_106 kv_X11_see kx_X11_see kd_X11_see ⟨Nat.le_of_ble_eq_true rfl, Nat.le_of_ble_eq_true rfl⟩) (ty_preE (ci := 11) (q0 := 1) hP hK hD hS hA hX rfl rfl) rfl rfl hl.1 rfl (lv_room (Nat.le_of_ble_eq_true rfl)) dX11_readStatement_1 ⟨Nat.le_of_ble_eq_true rfl, Nat.le_of_ble_eq_true rfl⟩) (fun r_1 u H locs hw_2 hP hD hS => ?_)
  obtain ⟨ws_3, rfl⟩ : ∃ z, z = u := ⟨_, rfl⟩
  obtain ⟨hT, rfl⟩ := hw_2
  obtain ⟨hP, hD⟩ := ty_shPD (w2 := ([(rf_RW ct 0 mf 958 g), (rf_MO mo mw ma mf m0 m1 mu mv u0 u1 iz th mb mn (rp_sk b mn mpt) (rp_sk b mn mpt) mwr (0) mlf men), (rf_RW ct 0 mb 800 b)] ++ ws_3)) hP hD rfl
  have hs_4 := rp_sk_b (b := b) (p := mpt) hmn.2 (by omega)
  refine lv_pop hx hb dX11_readStatement_4 rfl ?_
  refine lv_aload_n hx hb dX11_readStatement_5 rfl (lv_at hl 0 rfl) ?_
  obtain ⟨sa_5, sv_6, hsr_7, hss_8⟩ := hX.2.2.2.1 ("CellCyclerModel", 162, "curve", [99, 117, 114, 118, 101]) (by decide +kernel)
  refine va_ldcS hx hb hown hsr_7 dX11_readStatement_6 ?_
  obtain ⟨hP, hD⟩ := ty_ipPD (E1 := [(rf_RW ct 0 mf 958 g)]) (E2 := [(rf_MO mo mw ma mf m0 m1 mu mv u0 u1 iz th mb mn (rp_sk b mn mpt) (rp_sk b mn mpt) mwr (0) mlf men), (rf_RW ct 0 mb 800 b)]) hP hD rfl ty_mva
  refine ty_Ki hP hD hS hA (va_runV (As := [.ref sa_5]) (rest := []) ⟨hx, hb, hml, hown, hts⟩ (m_X11_isWord l D ct S ws_3 ph xx mo mw ma mf m0 m1 mu mv u0 u1 iz mb th mn (rp_sk b mn mpt) (rp_sk b mn mpt) mwr (0 : Int32) mlf men b sa_5 ("CellCyclerModel", 162, "curve", [99, 117, 114, 118, 101]) _ hT hph hy1 hmn (by omega) (by decide +kernel)) (cm_V 1 hts kc_X11_isWord ki_RX11 kl_RX11_146 kv_X11_isWord kx_X11_isWord kd_X11_isWord ⟨Nat.le_of_ble_eq_true rfl, Nat.le_of_ble_eq_true rfl⟩) (cm_preVs (ty_preE (ci := 11) (q0 := 1) hP hK hD hS hA hX rfl rfl) hsr_7) rfl rfl hl.1 rfl (lv_room (Nat.le_of_ble_eq_true rfl)) dX11_readStatement_8 ⟨Nat.le_of_ble_eq_true rfl, Nat.le_of_ble_eq_true rfl⟩) (fun r_9 u H locs hw_10 hP hD hS => ?_)
  obtain ⟨ws_11, rfl⟩ : ∃ z, z = u := ⟨_, rfl⟩
  obtain ⟨hT, hp_12⟩ := hw_10
  have hp_12 : ((r_9 = 0 ∧ ¬ rp_w b mn (rp_sk b mn mpt) = ("CellCyclerModel", 162, "curve", [99, 117, 114, 118, 101]).2.2.2) ∨ (r_9 = 1 ∧ rp_w b mn (rp_sk b mn mpt) = ("CellCyclerModel", 162, "curve", [99, 117, 114, 118, 101]).2.2.2)) := hp_12
  obtain ⟨hP, hD⟩ := ty_shPD (w2 := ([(rf_RW ct 0 mf 958 g), (rf_MO mo mw ma mf m0 m1 mu mv u0 u1 iz th mb mn (rp_sk b mn mpt) (rp_sk b mn mpt) mwr (0) mlf men), (rf_RW ct 0 mb 800 b)] ++ ws_11)) hP hD rfl
  rcases hp_12 with ⟨rfl, hz_13⟩ | ⟨rfl, hz_14⟩
  · refine lv_if_eq (tgt := 19) hx hb dX11_readStatement_11 (by decide) (fun _ => ?_) (fun hc => absurd (by decide) hc)
    refine lv_aload_n hx hb dX11_readStatement_19 rfl (lv_at hl 0 rfl) ?_
    obtain ⟨sa_15, sv_16, hsr_17, hss_18⟩ := hX.2.2.2.1 ("CellCyclerModel", 167, "cell", [99, 101, 108, 108]) (by decide +kernel)
    refine va_ldcS hx hb hown hsr_17 dX11_readStatement_20 ?_
    obtain ⟨hP, hD⟩ := ty_ipPD (E1 := [(rf_RW ct 0 mf 958 g)]) (E2 := [(rf_MO mo mw ma mf m0 m1 mu mv u0 u1 iz th mb mn (rp_sk b mn mpt) (rp_sk b mn mpt) mwr (0) mlf men), (rf_RW ct 0 mb 800 b)]) hP hD rfl ty_mva
    refine ty_Ki hP hD hS hA (va_runV (As := [.ref sa_15]) (rest := []) ⟨hx, hb, hml, hown, hts⟩ (m_X11_isWord l D ct S ws_11 ph xx mo mw ma mf m0 m1 mu mv u0 u1 iz mb th mn (rp_sk b mn mpt) (rp_sk b mn mpt) mwr (0 : Int32) mlf men b sa_15 ("CellCyclerModel", 167, "cell", [99, 101, 108, 108]) _ hT hph hy1 hmn (by omega) (by decide +kernel)) (cm_V 1 hts kc_X11_isWord ki_RX11 kl_RX11_146 kv_X11_isWord kx_X11_isWord kd_X11_isWord ⟨Nat.le_of_ble_eq_true rfl, Nat.le_of_ble_eq_true rfl⟩) (cm_preVs (ty_preE (ci := 11) (q0 := 1) hP hK hD hS hA hX rfl rfl) hsr_17) rfl rfl hl.1 rfl (lv_room (Nat.le_of_ble_eq_true rfl)) dX11_readStatement_22 ⟨Nat.le_of_ble_eq_true rfl, Nat.le_of_ble_eq_true rfl⟩) (fun r_19 u H locs hw_20 hP hD hS => ?_)
    obtain ⟨ws_21, rfl⟩ : ∃ z, z = u := ⟨_, rfl⟩
    obtain ⟨hT, hp_22⟩ := hw_20
    have hp_22 : ((r_19 = 0 ∧ ¬ rp_w b mn (rp_sk b mn mpt) = ("CellCyclerModel", 167, "cell", [99, 101, 108, 108]).2.2.2) ∨ (r_19 = 1 ∧ rp_w b mn (rp_sk b mn mpt) = ("CellCyclerModel", 167, "cell", [99, 101, 108, 108]).2.2.2)) := hp_22
    obtain ⟨hP, hD⟩ := ty_shPD (w2 := ([(rf_RW ct 0 mf 958 g), (rf_MO mo mw ma mf m0 m1 mu mv u0 u1 iz th mb mn (rp_sk b mn mpt) (rp_sk b mn mpt) mwr (0) mlf men), (rf_RW ct 0 mb 800 b)] ++ ws_21)) hP hD rfl
    rcases hp_22 with ⟨rfl, hz_23⟩ | ⟨rfl, hz_24⟩
    · refine lv_if_eq (tgt := 33) hx hb dX11_readStatement_25 (by decide) (fun _ => ?_) (fun hc => absurd (by decide) hc)
      refine lv_aload_n hx hb dX11_readStatement_33 rfl (lv_at hl 0 rfl) ?_
      obtain ⟨sa_25, sv_26, hsr_27, hss_28⟩ := hX.2.2.2.1 ("CellCyclerModel", 172, "program", [112, 114, 111, 103, 114, 97, 109]) (by decide +kernel)
      refine va_ldcS hx hb hown hsr_27 dX11_readStatement_34 ?_
      obtain ⟨hP, hD⟩ := ty_ipPD (E1 := [(rf_RW ct 0 mf 958 g)]) (E2 := [(rf_MO mo mw ma mf m0 m1 mu mv u0 u1 iz th mb mn (rp_sk b mn mpt) (rp_sk b mn mpt) mwr (0) mlf men), (rf_RW ct 0 mb 800 b)]) hP hD rfl ty_mva
      refine ty_Ki hP hD hS hA (va_runV (As := [.ref sa_25]) (rest := []) ⟨hx, hb, hml, hown, hts⟩ (m_X11_isWord l D ct S ws_21 ph xx mo mw ma mf m0 m1 mu mv u0 u1 iz mb th mn (rp_sk b mn mpt) (rp_sk b mn mpt) mwr (0 : Int32) mlf men b sa_25 ("CellCyclerModel", 172, "program", [112, 114, 111, 103, 114, 97, 109]) _ hT hph hy1 hmn (by omega) (by decide +kernel)) (cm_V 1 hts kc_X11_isWord ki_RX11 kl_RX11_146 kv_X11_isWord kx_X11_isWord kd_X11_isWord ⟨Nat.le_of_ble_eq_true rfl, Nat.le_of_ble_eq_true rfl⟩) (cm_preVs (ty_preE (ci := 11) (q0 := 1) hP hK hD hS hA hX rfl rfl) hsr_27) rfl rfl hl.1 rfl (lv_room (Nat.le_of_ble_eq_true rfl)) dX11_readStatement_36 ⟨Nat.le_of_ble_eq_true rfl, Nat.le_of_ble_eq_true rfl⟩) (fun r_29 u H locs hw_30 hP hD hS => ?_)
      obtain ⟨ws_31, rfl⟩ : ∃ z, z = u := ⟨_, rfl⟩
      obtain ⟨hT, hp_32⟩ := hw_30
      have hp_32 : ((r_29 = 0 ∧ ¬ rp_w b mn (rp_sk b mn mpt) = ("CellCyclerModel", 172, "program", [112, 114, 111, 103, 114, 97, 109]).2.2.2) ∨ (r_29 = 1 ∧ rp_w b mn (rp_sk b mn mpt) = ("CellCyclerModel", 172, "program", [112, 114, 111, 103, 114, 97, 109]).2.2.2)) := hp_32
      obtain ⟨hP, hD⟩ := ty_shPD (w2 := ([(rf_RW ct 0 mf 958 g), (rf_MO mo mw ma mf m0 m1 mu mv u0 u1 iz th mb mn (rp_sk b mn mpt) (rp_sk b mn mpt) mwr (0) mlf men), (rf_RW ct 0 mb 800 b)] ++ ws_31)) hP hD rfl
      rcases hp_32 with ⟨rfl, hz_33⟩ | ⟨rfl, hz_34⟩
      · refine lv_if_eq (tgt := 47) hx hb dX11_readStatement_39 (by decide) (fun _ => ?_) (fun hc => absurd (by decide) hc)
        refine lv_aload_n hx hb dX11_readStatement_47 rfl (lv_at hl 0 rfl) ?_
        obtain ⟨sa_35, sv_36, hsr_37, hss_38⟩ := hX.2.2.2.1 ("CellCyclerModel", 177, "efficiency", [101, 102, 102, 105, 99, 105, 101, 110, 99, 121]) (by decide +kernel)
        refine va_ldcS hx hb hown hsr_37 dX11_readStatement_48 ?_
        obtain ⟨hP, hD⟩ := ty_ipPD (E1 := [(rf_RW ct 0 mf 958 g)]) (E2 := [(rf_MO mo mw ma mf m0 m1 mu mv u0 u1 iz th mb mn (rp_sk b mn mpt) (rp_sk b mn mpt) mwr (0) mlf men), (rf_RW ct 0 mb 800 b)]) hP hD rfl ty_mva
        refine ty_Ki hP hD hS hA (va_runV (As := [.ref sa_35]) (rest := []) ⟨hx, hb, hml, hown, hts⟩ (m_X11_isWord l D ct S ws_31 ph xx mo mw ma mf m0 m1 mu mv u0 u1 iz mb th mn (rp_sk b mn mpt) (rp_sk b mn mpt) mwr (0 : Int32) mlf men b sa_35 ("CellCyclerModel", 177, "efficiency", [101, 102, 102, 105, 99, 105, 101, 110, 99, 121]) _ hT hph hy1 hmn (by omega) (by decide +kernel)) (cm_V 1 hts kc_X11_isWord ki_RX11 kl_RX11_146 kv_X11_isWord kx_X11_isWord kd_X11_isWord ⟨Nat.le_of_ble_eq_true rfl, Nat.le_of_ble_eq_true rfl⟩) (cm_preVs (ty_preE (ci := 11) (q0 := 1) hP hK hD hS hA hX rfl rfl) hsr_37) rfl rfl hl.1 rfl (lv_room (Nat.le_of_ble_eq_true rfl)) dX11_readStatement_50 ⟨Nat.le_of_ble_eq_true rfl, Nat.le_of_ble_eq_true rfl⟩) (fun r_39 u H locs hw_40 hP hD hS => ?_)
        obtain ⟨ws_41, rfl⟩ : ∃ z, z = u := ⟨_, rfl⟩
        obtain ⟨hT, hp_42⟩ := hw_40
        have hp_42 : ((r_39 = 0 ∧ ¬ rp_w b mn (rp_sk b mn mpt) = ("CellCyclerModel", 177, "efficiency", [101, 102, 102, 105, 99, 105, 101, 110, 99, 121]).2.2.2) ∨ (r_39 = 1 ∧ rp_w b mn (rp_sk b mn mpt) = ("CellCyclerModel", 177, "efficiency", [101, 102, 102, 105, 99, 105, 101, 110, 99, 121]).2.2.2)) := hp_42
        obtain ⟨hP, hD⟩ := ty_shPD (w2 := ([(rf_RW ct 0 mf 958 g), (rf_MO mo mw ma mf m0 m1 mu mv u0 u1 iz th mb mn (rp_sk b mn mpt) (rp_sk b mn mpt) mwr (0) mlf men), (rf_RW ct 0 mb 800 b)] ++ ws_41)) hP hD rfl
        rcases hp_42 with ⟨rfl, hz_43⟩ | ⟨rfl, hz_44⟩
        · refine lv_if_eq (tgt := 83) hx hb dX11_readStatement_53 (by decide) (fun _ => ?_) (fun hc => absurd (by decide) hc)
          refine lv_aload_n hx hb dX11_readStatement_83 rfl (lv_at hl 0 rfl) ?_
          obtain ⟨sa_45, sv_46, hsr_47, hss_48⟩ := hX.2.2.2.1 ("CellCyclerModel", 179, "fade", [102, 97, 100, 101]) (by decide +kernel)
          refine va_ldcS hx hb hown hsr_47 dX11_readStatement_84 ?_
          obtain ⟨hP, hD⟩ := ty_ipPD (E1 := [(rf_RW ct 0 mf 958 g)]) (E2 := [(rf_MO mo mw ma mf m0 m1 mu mv u0 u1 iz th mb mn (rp_sk b mn mpt) (rp_sk b mn mpt) mwr (0) mlf men), (rf_RW ct 0 mb 800 b)]) hP hD rfl ty_mva
          refine ty_Ki hP hD hS hA (va_runV (As := [.ref sa_45]) (rest := []) ⟨hx, hb, hml, hown, hts⟩ (m_X11_isWord l D ct S ws_41 ph xx mo mw ma mf m0 m1 mu mv u0 u1 iz mb th mn (rp_sk b mn mpt) (rp_sk b mn mpt) mwr (0 : Int32) mlf men b sa_45 ("CellCyclerModel", 179, "fade", [102, 97, 100, 101]) _ hT hph hy1 hmn (by omega) (by decide +kernel)) (cm_V 1 hts kc_X11_isWord ki_RX11 kl_RX11_146 kv_X11_isWord kx_X11_isWord kd_X11_isWord ⟨Nat.le_of_ble_eq_true rfl, Nat.le_of_ble_eq_true rfl⟩) (cm_preVs (ty_preE (ci := 11) (q0 := 1) hP hK hD hS hA hX rfl rfl) hsr_47) rfl rfl hl.1 rfl (lv_room (Nat.le_of_ble_eq_true rfl)) dX11_readStatement_86 ⟨Nat.le_of_ble_eq_true rfl, Nat.le_of_ble_eq_true rfl⟩) (fun r_49 u H locs hw_50 hP hD hS => ?_)
          obtain ⟨ws_51, rfl⟩ : ∃ z, z = u := ⟨_, rfl⟩
          obtain ⟨hT, hp_52⟩ := hw_50
          have hp_52 : ((r_49 = 0 ∧ ¬ rp_w b mn (rp_sk b mn mpt) = ("CellCyclerModel", 179, "fade", [102, 97, 100, 101]).2.2.2) ∨ (r_49 = 1 ∧ rp_w b mn (rp_sk b mn mpt) = ("CellCyclerModel", 179, "fade", [102, 97, 100, 101]).2.2.2)) := hp_52
          obtain ⟨hP, hD⟩ := ty_shPD (w2 := ([(rf_RW ct 0 mf 958 g), (rf_MO mo mw ma mf m0 m1 mu mv u0 u1 iz th mb mn (rp_sk b mn mpt) (rp_sk b mn mpt) mwr (0) mlf men), (rf_RW ct 0 mb 800 b)] ++ ws_51)) hP hD rfl
          rcases hp_52 with ⟨rfl, hz_53⟩ | ⟨rfl, hz_54⟩
          · refine lv_if_eq (tgt := 117) hx hb dX11_readStatement_89 (by decide) (fun _ => ?_) (fun hc => absurd (by decide) hc)
            refine lv_aload_n hx hb dX11_readStatement_117 rfl (lv_at hl 0 rfl) ?_
            obtain ⟨sa_55, sv_56, hsr_57, hss_58⟩ := hX.2.2.2.1 ("CellCyclerModel", 182, "heat", [104, 101, 97, 116]) (by decide +kernel)
            refine va_ldcS hx hb hown hsr_57 dX11_readStatement_118 ?_
            obtain ⟨hP, hD⟩ := ty_ipPD (E1 := [(rf_RW ct 0 mf 958 g)]) (E2 := [(rf_MO mo mw ma mf m0 m1 mu mv u0 u1 iz th mb mn (rp_sk b mn mpt) (rp_sk b mn mpt) mwr (0) mlf men), (rf_RW ct 0 mb 800 b)]) hP hD rfl ty_mva
            refine ty_Ki hP hD hS hA (va_runV (As := [.ref sa_55]) (rest := []) ⟨hx, hb, hml, hown, hts⟩ (m_X11_isWord l D ct S ws_51 ph xx mo mw ma mf m0 m1 mu mv u0 u1 iz mb th mn (rp_sk b mn mpt) (rp_sk b mn mpt) mwr (0 : Int32) mlf men b sa_55 ("CellCyclerModel", 182, "heat", [104, 101, 97, 116]) _ hT hph hy1 hmn (by omega) (by decide +kernel)) (cm_V 1 hts kc_X11_isWord ki_RX11 kl_RX11_146 kv_X11_isWord kx_X11_isWord kd_X11_isWord ⟨Nat.le_of_ble_eq_true rfl, Nat.le_of_ble_eq_true rfl⟩) (cm_preVs (ty_preE (ci := 11) (q0 := 1) hP hK hD hS hA hX rfl rfl) hsr_57) rfl rfl hl.1 rfl (lv_room (Nat.le_of_ble_eq_true rfl)) dX11_readStatement_120 ⟨Nat.le_of_ble_eq_true rfl, Nat.le_of_ble_eq_true rfl⟩) (fun r_59 u H locs hw_60 hP hD hS => ?_)
            obtain ⟨ws_61, rfl⟩ : ∃ z, z = u := ⟨_, rfl⟩
            obtain ⟨hT, hp_62⟩ := hw_60
            have hp_62 : ((r_59 = 0 ∧ ¬ rp_w b mn (rp_sk b mn mpt) = ("CellCyclerModel", 182, "heat", [104, 101, 97, 116]).2.2.2) ∨ (r_59 = 1 ∧ rp_w b mn (rp_sk b mn mpt) = ("CellCyclerModel", 182, "heat", [104, 101, 97, 116]).2.2.2)) := hp_62
            obtain ⟨hP, hD⟩ := ty_shPD (w2 := ([(rf_RW ct 0 mf 958 g), (rf_MO mo mw ma mf m0 m1 mu mv u0 u1 iz th mb mn (rp_sk b mn mpt) (rp_sk b mn mpt) mwr (0) mlf men), (rf_RW ct 0 mb 800 b)] ++ ws_61)) hP hD rfl
            rcases hp_62 with ⟨rfl, hz_63⟩ | ⟨rfl, hz_64⟩
            · refine lv_if_eq (tgt := 171) hx hb dX11_readStatement_123 (by decide) (fun _ => ?_) (fun hc => absurd (by decide) hc)
              refine lv_aload_n hx hb dX11_readStatement_171 rfl (lv_at hl 0 rfl) ?_
              obtain ⟨sa_65, sv_66, hsr_67, hss_68⟩ := hX.2.2.2.1 ("CellCyclerModel", 187, "limits", [108, 105, 109, 105, 116, 115]) (by decide +kernel)
              refine va_ldcS hx hb hown hsr_67 dX11_readStatement_172 ?_
              obtain ⟨hP, hD⟩ := ty_ipPD (E1 := [(rf_RW ct 0 mf 958 g)]) (E2 := [(rf_MO mo mw ma mf m0 m1 mu mv u0 u1 iz th mb mn (rp_sk b mn mpt) (rp_sk b mn mpt) mwr (0) mlf men), (rf_RW ct 0 mb 800 b)]) hP hD rfl ty_mva
              refine ty_Ki hP hD hS hA (va_runV (As := [.ref sa_65]) (rest := []) ⟨hx, hb, hml, hown, hts⟩ (m_X11_isWord l D ct S ws_61 ph xx mo mw ma mf m0 m1 mu mv u0 u1 iz mb th mn (rp_sk b mn mpt) (rp_sk b mn mpt) mwr (0 : Int32) mlf men b sa_65 ("CellCyclerModel", 187, "limits", [108, 105, 109, 105, 116, 115]) _ hT hph hy1 hmn (by omega) (by decide +kernel)) (cm_V 1 hts kc_X11_isWord ki_RX11 kl_RX11_146 kv_X11_isWord kx_X11_isWord kd_X11_isWord ⟨Nat.le_of_ble_eq_true rfl, Nat.le_of_ble_eq_true rfl⟩) (cm_preVs (ty_preE (ci := 11) (q0 := 1) hP hK hD hS hA hX rfl rfl) hsr_67) rfl rfl hl.1 rfl (lv_room (Nat.le_of_ble_eq_true rfl)) dX11_readStatement_174 ⟨Nat.le_of_ble_eq_true rfl, Nat.le_of_ble_eq_true rfl⟩) (fun r_69 u H locs hw_70 hP hD hS => ?_)
              obtain ⟨ws_71, rfl⟩ : ∃ z, z = u := ⟨_, rfl⟩
              obtain ⟨hT, hp_72⟩ := hw_70
              have hp_72 : ((r_69 = 0 ∧ ¬ rp_w b mn (rp_sk b mn mpt) = ("CellCyclerModel", 187, "limits", [108, 105, 109, 105, 116, 115]).2.2.2) ∨ (r_69 = 1 ∧ rp_w b mn (rp_sk b mn mpt) = ("CellCyclerModel", 187, "limits", [108, 105, 109, 105, 116, 115]).2.2.2)) := hp_72
              obtain ⟨hP, hD⟩ := ty_shPD (w2 := ([(rf_RW ct 0 mf 958 g), (rf_MO mo mw ma mf m0 m1 mu mv u0 u1 iz th mb mn (rp_sk b mn mpt) (rp_sk b mn mpt) mwr (0) mlf men), (rf_RW ct 0 mb 800 b)] ++ ws_71)) hP hD rfl
              rcases hp_72 with ⟨rfl, hz_73⟩ | ⟨rfl, hz_74⟩
              · refine lv_if_eq (tgt := 237) hx hb dX11_readStatement_177 (by decide) (fun _ => ?_) (fun hc => absurd (by decide) hc)
                refine lv_aload_n hx hb dX11_readStatement_237 rfl (lv_at hl 0 rfl) ?_
                obtain ⟨sa_75, sv_76, hsr_77, hss_78⟩ := hX.2.2.2.1 ("CellCyclerModel", 189, "warn", [119, 97, 114, 110]) (by decide +kernel)
                refine va_ldcS hx hb hown hsr_77 dX11_readStatement_238 ?_
                obtain ⟨hP, hD⟩ := ty_ipPD (E1 := [(rf_RW ct 0 mf 958 g)]) (E2 := [(rf_MO mo mw ma mf m0 m1 mu mv u0 u1 iz th mb mn (rp_sk b mn mpt) (rp_sk b mn mpt) mwr (0) mlf men), (rf_RW ct 0 mb 800 b)]) hP hD rfl ty_mva
                refine ty_Ki hP hD hS hA (va_runV (As := [.ref sa_75]) (rest := []) ⟨hx, hb, hml, hown, hts⟩ (m_X11_isWord l D ct S ws_71 ph xx mo mw ma mf m0 m1 mu mv u0 u1 iz mb th mn (rp_sk b mn mpt) (rp_sk b mn mpt) mwr (0 : Int32) mlf men b sa_75 ("CellCyclerModel", 189, "warn", [119, 97, 114, 110]) _ hT hph hy1 hmn (by omega) (by decide +kernel)) (cm_V 1 hts kc_X11_isWord ki_RX11 kl_RX11_146 kv_X11_isWord kx_X11_isWord kd_X11_isWord ⟨Nat.le_of_ble_eq_true rfl, Nat.le_of_ble_eq_true rfl⟩) (cm_preVs (ty_preE (ci := 11) (q0 := 1) hP hK hD hS hA hX rfl rfl) hsr_77) rfl rfl hl.1 rfl (lv_room (Nat.le_of_ble_eq_true rfl)) dX11_readStatement_240 ⟨Nat.le_of_ble_eq_true rfl, Nat.le_of_ble_eq_true rfl⟩) (fun r_79 u H locs hw_80 hP hD hS => ?_)
                obtain ⟨ws_81, rfl⟩ : ∃ z, z = u := ⟨_, rfl⟩
                obtain ⟨hT, hp_82⟩ := hw_80
                have hp_82 : ((r_79 = 0 ∧ ¬ rp_w b mn (rp_sk b mn mpt) = ("CellCyclerModel", 189, "warn", [119, 97, 114, 110]).2.2.2) ∨ (r_79 = 1 ∧ rp_w b mn (rp_sk b mn mpt) = ("CellCyclerModel", 189, "warn", [119, 97, 114, 110]).2.2.2)) := hp_82
                obtain ⟨hP, hD⟩ := ty_shPD (w2 := ([(rf_RW ct 0 mf 958 g), (rf_MO mo mw ma mf m0 m1 mu mv u0 u1 iz th mb mn (rp_sk b mn mpt) (rp_sk b mn mpt) mwr (0) mlf men), (rf_RW ct 0 mb 800 b)] ++ ws_81)) hP hD rfl
                rcases hp_82 with ⟨rfl, hz_83⟩ | ⟨rfl, hz_84⟩
                · refine lv_if_eq (tgt := 304) hx hb dX11_readStatement_243 (by decide) (fun _ => ?_) (fun hc => absurd (by decide) hc)
                  refine lv_aload_n hx hb dX11_readStatement_304 rfl (lv_at hl 0 rfl) ?_
                  obtain ⟨sa_85, sv_86, hsr_87, hss_88⟩ := hX.2.2.2.1 ("CellCyclerModel", 191, "derate", [100, 101, 114, 97, 116, 101]) (by decide +kernel)
                  refine va_ldcS hx hb hown hsr_87 dX11_readStatement_305 ?_
                  obtain ⟨hP, hD⟩ := ty_ipPD (E1 := [(rf_RW ct 0 mf 958 g)]) (E2 := [(rf_MO mo mw ma mf m0 m1 mu mv u0 u1 iz th mb mn (rp_sk b mn mpt) (rp_sk b mn mpt) mwr (0) mlf men), (rf_RW ct 0 mb 800 b)]) hP hD rfl ty_mva
                  refine ty_Ki hP hD hS hA (va_runV (As := [.ref sa_85]) (rest := []) ⟨hx, hb, hml, hown, hts⟩ (m_X11_isWord l D ct S ws_81 ph xx mo mw ma mf m0 m1 mu mv u0 u1 iz mb th mn (rp_sk b mn mpt) (rp_sk b mn mpt) mwr (0 : Int32) mlf men b sa_85 ("CellCyclerModel", 191, "derate", [100, 101, 114, 97, 116, 101]) _ hT hph hy1 hmn (by omega) (by decide +kernel)) (cm_V 1 hts kc_X11_isWord ki_RX11 kl_RX11_146 kv_X11_isWord kx_X11_isWord kd_X11_isWord ⟨Nat.le_of_ble_eq_true rfl, Nat.le_of_ble_eq_true rfl⟩) (cm_preVs (ty_preE (ci := 11) (q0 := 1) hP hK hD hS hA hX rfl rfl) hsr_87) rfl rfl hl.1 rfl (lv_room (Nat.le_of_ble_eq_true rfl)) dX11_readStatement_307 ⟨Nat.le_of_ble_eq_true rfl, Nat.le_of_ble_eq_true rfl⟩) (fun r_89 u H locs hw_90 hP hD hS => ?_)
                  obtain ⟨ws_91, rfl⟩ : ∃ z, z = u := ⟨_, rfl⟩
                  obtain ⟨hT, hp_92⟩ := hw_90
                  have hp_92 : ((r_89 = 0 ∧ ¬ rp_w b mn (rp_sk b mn mpt) = ("CellCyclerModel", 191, "derate", [100, 101, 114, 97, 116, 101]).2.2.2) ∨ (r_89 = 1 ∧ rp_w b mn (rp_sk b mn mpt) = ("CellCyclerModel", 191, "derate", [100, 101, 114, 97, 116, 101]).2.2.2)) := hp_92
                  obtain ⟨hP, hD⟩ := ty_shPD (w2 := ([(rf_RW ct 0 mf 958 g), (rf_MO mo mw ma mf m0 m1 mu mv u0 u1 iz th mb mn (rp_sk b mn mpt) (rp_sk b mn mpt) mwr (0) mlf men), (rf_RW ct 0 mb 800 b)] ++ ws_91)) hP hD rfl
                  rcases hp_92 with ⟨rfl, hz_93⟩ | ⟨rfl, hz_94⟩
                  · refine lv_if_eq (tgt := 339) hx hb dX11_readStatement_310 (by decide) (fun _ => ?_) (fun hc => absurd (by decide) hc)
                    refine lv_aload_n hx hb dX11_readStatement_339 rfl (lv_at hl 0 rfl) ?_
                    obtain ⟨sa_95, sv_96, hsr_97, hss_98⟩ := hX.2.2.2.1 ("CellCyclerModel", 193, "ambient", [97, 109, 98, 105, 101, 110, 116]) (by decide +kernel)
                    refine va_ldcS hx hb hown hsr_97 dX11_readStatement_340 ?_
                    obtain ⟨hP, hD⟩ := ty_ipPD (E1 := [(rf_RW ct 0 mf 958 g)]) (E2 := [(rf_MO mo mw ma mf m0 m1 mu mv u0 u1 iz th mb mn (rp_sk b mn mpt) (rp_sk b mn mpt) mwr (0) mlf men), (rf_RW ct 0 mb 800 b)]) hP hD rfl ty_mva
                    refine ty_Ki hP hD hS hA (va_runV (As := [.ref sa_95]) (rest := []) ⟨hx, hb, hml, hown, hts⟩ (m_X11_isWord l D ct S ws_91 ph xx mo mw ma mf m0 m1 mu mv u0 u1 iz mb th mn (rp_sk b mn mpt) (rp_sk b mn mpt) mwr (0 : Int32) mlf men b sa_95 ("CellCyclerModel", 193, "ambient", [97, 109, 98, 105, 101, 110, 116]) _ hT hph hy1 hmn (by omega) (by decide +kernel)) (cm_V 1 hts kc_X11_isWord ki_RX11 kl_RX11_146 kv_X11_isWord kx_X11_isWord kd_X11_isWord ⟨Nat.le_of_ble_eq_true rfl, Nat.le_of_ble_eq_true rfl⟩) (cm_preVs (ty_preE (ci := 11) (q0 := 1) hP hK hD hS hA hX rfl rfl) hsr_97) rfl rfl hl.1 rfl (lv_room (Nat.le_of_ble_eq_true rfl)) dX11_readStatement_342 ⟨Nat.le_of_ble_eq_true rfl, Nat.le_of_ble_eq_true rfl⟩) (fun r_99 u H locs hw_100 hP hD hS => ?_)
                    obtain ⟨ws_101, rfl⟩ : ∃ z, z = u := ⟨_, rfl⟩
                    obtain ⟨hT, hp_102⟩ := hw_100
                    have hp_102 : ((r_99 = 0 ∧ ¬ rp_w b mn (rp_sk b mn mpt) = ("CellCyclerModel", 193, "ambient", [97, 109, 98, 105, 101, 110, 116]).2.2.2) ∨ (r_99 = 1 ∧ rp_w b mn (rp_sk b mn mpt) = ("CellCyclerModel", 193, "ambient", [97, 109, 98, 105, 101, 110, 116]).2.2.2)) := hp_102
                    obtain ⟨hP, hD⟩ := ty_shPD (w2 := ([(rf_RW ct 0 mf 958 g), (rf_MO mo mw ma mf m0 m1 mu mv u0 u1 iz th mb mn (rp_sk b mn mpt) (rp_sk b mn mpt) mwr (0) mlf men), (rf_RW ct 0 mb 800 b)] ++ ws_101)) hP hD rfl
                    rcases hp_102 with ⟨rfl, hz_103⟩ | ⟨rfl, hz_104⟩
                    · refine lv_if_eq (tgt := 376) hx hb dX11_readStatement_345 (by decide) (fun _ => ?_) (fun hc => absurd (by decide) hc)
                      refine lv_aload_n hx hb dX11_readStatement_376 rfl (lv_at hl 0 rfl) ?_
                      refine lv_iconst (v := 1) hx hb dX11_readStatement_377 (by decide) ?_
                      obtain ⟨hP, hD⟩ := ty_opPD (E1 := [(rf_RW ct 0 mf 958 g), (rf_RW ct 0 mb 800 b)]) (E2 := [(rf_MO mo mw ma mf m0 m1 mu mv u0 u1 iz th mb mn (rp_sk b mn mpt) (rp_sk b mn mpt) mwr (0) mlf men)]) (n := 3) [0, 2, 1] hP hD rfl rfl (by decide +kernel) ty_mva
                      refine ty_Ki hP hD hS hA (va_runV (As := [.int 1]) (rest := []) ⟨hx, hb, hml, hown, hts⟩ (m_X11_fails l D ct S ws_101 ph xx mo mw ma mf m0 m1 mu mv u0 u1 iz mb th mn (rp_sk b mn mpt) (rp_sk b mn mpt) mwr mlf men (1 : Int32) _ hT hph hy1) (cm_V 1 hts kc_X11_fails ki_RX11 kl_RX11_112 kv_X11_fails kx_X11_fails kd_X11_fails ⟨Nat.le_of_ble_eq_true rfl, Nat.le_of_ble_eq_true rfl⟩) (ty_preE (ci := 11) (q0 := 2) hP hK hD hS hA hX rfl rfl) rfl rfl hl.1 rfl (lv_room (Nat.le_of_ble_eq_true rfl)) dX11_readStatement_378 ⟨Nat.le_of_ble_eq_true rfl, Nat.le_of_ble_eq_true rfl⟩) (fun r_105 u H locs hw_106 hP hD hS => ?_)
                      obtain ⟨ws_107, rfl⟩ : ∃ z, z = u := ⟨_, rfl⟩
                      obtain ⟨hT, rfl⟩ := hw_106
                      obtain ⟨hP, hD⟩ := ty_shPD (w2 := ([(rf_RW ct 0 mf 958 g), (rf_RW ct 0 mb 800 b), (rf_MO mo mw ma mf m0 m1 mu mv u0 u1 iz th mb mn (rp_sk b mn mpt) (rp_sk b mn mpt) (rp_sk b mn mpt) (1) mlf men)] ++ ws_107)) hP hD rfl
                      obtain ⟨hP, hD⟩ := ty_ordPD (E2 := [(rf_MO mo mw ma mf m0 m1 mu mv u0 u1 iz th mb mn (rp_sk b mn mpt) (rp_sk b mn mpt) (rp_sk b mn mpt) (1) mlf men), (rf_RW ct 0 mb 800 b), (rf_RW ct 0 mf 958 g)]) (n := 3) [2, 1, 0] hP hD rfl rfl (by decide +kernel)
                      exact W.zret (v := 0) hx hb hr (by decide) (fun t ht hW => ⟨⟨0, (ws_107, (rp_sk b mn mpt), (rp_sk b mn mpt), (rp_sk b mn mpt), (1 : Int32), g), rfl, ⟨hT, ⟨by omega, Or.inl ⟨rfl, (rm_fB (rm_fe ⟨(by decide), rfl, rfl⟩ (rm_t0 (N := N) (np := (g 10).toInt) (nc := (g 9).toInt) (rm_wh0 hz_13 hz_23 hz_33) (rm_e_no hz_43 hz_53 hz_63 hz_73 hz_103 hz_83 hz_93).1 (rm_e_no hz_43 hz_53 hz_63 hz_73 hz_103 hz_83 hz_93).2).1 (rm_t0 (N := N) (np := (g 10).toInt) (nc := (g 9).toInt) (rm_wh0 hz_13 hz_23 hz_33) (rm_e_no hz_43 hz_53 hz_63 hz_73 hz_103 hz_83 hz_93).1 (rm_e_no hz_43 hz_53 hz_63 hz_73 hz_103 hz_83 hz_93).2).2.1))⟩⟩⟩, by rw [ht]; exact hP, by rw [hAe]; exact hD⟩, hS.F ht⟩) hS.2.2 dX11_readStatement_381
                    · refine lv_if_eq (tgt := 376) hx hb dX11_readStatement_345 (by decide) (fun hc => absurd hc (by decide)) (fun _ => ?_)
                      refine lv_aload_n hx hb dX11_readStatement_348 rfl (lv_at hl 0 rfl) ?_
                      obtain ⟨hP, hD⟩ := ty_ipPD (E1 := [(rf_RW ct 0 mf 958 g)]) (E2 := [(rf_MO mo mw ma mf m0 m1 mu mv u0 u1 iz th mb mn (rp_sk b mn mpt) (rp_sk b mn mpt) mwr (0) mlf men), (rf_RW ct 0 mb 800 b)]) hP hD rfl ty_mva
                      refine ty_Ki hP hD hS hA (va_runV (As := []) (rest := []) ⟨hx, hb, hml, hown, hts⟩ (m_X11_passes l D ct S ws_101 ph xx mo mw ma mf m0 m1 mu mv u0 u1 iz mb th mn (rp_sk b mn mpt) (rp_sk b mn mpt) mwr (0 : Int32) mlf men b _ hT hph hy1 hmn (by omega)) (cm_V 0 hts kc_X11_passes ki_RX11 kl_RX11_133 kv_X11_passes kx_X11_passes kd_X11_passes ⟨Nat.le_of_ble_eq_true rfl, Nat.le_of_ble_eq_true rfl⟩) (ty_preE (ci := 11) (q0 := 1) hP hK hD hS hA hX rfl rfl) rfl rfl hl.1 rfl (lv_room (Nat.le_of_ble_eq_true rfl)) dX11_readStatement_349 ⟨Nat.le_of_ble_eq_true rfl, Nat.le_of_ble_eq_true rfl⟩) (fun r_108 u H locs hw_109 hP hD hS => ?_)
                      obtain ⟨ws_110, rfl⟩ : ∃ z, z = u := ⟨_, rfl⟩
                      obtain ⟨hT, rfl⟩ := hw_109
                      obtain ⟨hP, hD⟩ := ty_shPD (w2 := ([(rf_RW ct 0 mf 958 g), (rf_MO mo mw ma mf m0 m1 mu mv u0 u1 iz th mb mn (rp_we b mn (rp_sk b mn mpt)) (rp_sk b mn mpt) mwr (0) mlf men), (rf_RW ct 0 mb 800 b)] ++ ws_110)) hP hD rfl
                      have hs_111 := rp_we_b (b := b) (p := (rp_sk b mn mpt)) hmn.2 (by omega)
                      refine lv_if_eq (tgt := 372) hx hb dX11_readStatement_352 (by decide) (fun hc => absurd hc (by decide)) (fun _ => ?_)
                      refine lv_aload_n hx hb dX11_readStatement_355 rfl (lv_at hl 0 rfl) ?_
                      refine lv_bipush (v := 7) hx hb dX11_readStatement_356 (by decide) ?_
                      refine lv_iconst (v := 0) hx hb dX11_readStatement_358 (by decide) ?_
                      refine lv_sipush (v := 500) hx hb dX11_readStatement_359 (by decide) ?_
                      obtain ⟨hP, hD⟩ := ty_opPD (E1 := []) (E2 := [(rf_MO mo mw ma mf m0 m1 mu mv u0 u1 iz th mb mn (rp_we b mn (rp_sk b mn mpt)) (rp_sk b mn mpt) mwr (0) mlf men), (rf_RW ct 0 mb 800 b), (rf_RW ct 0 mf 958 g)]) (n := 3) [1, 2, 0] hP hD rfl rfl (by decide +kernel) ty_mva
                      refine ty_Ki hP hD hS hA (va_runV (As := [.int 7, .int 0, .int 500]) (rest := []) ⟨hx, hb, hml, hown, hts⟩ (m_X11_reads l D ct S ws_110 ph xx mo mw ma mf m0 m1 mu mv u0 u1 iz mb th mn (rp_we b mn (rp_sk b mn mpt)) (rp_sk b mn mpt) mwr mlf men b (7 : Int32) (0 : Int32) (500 : Int32) g 0 500 _ hT hph hy1 hmn (by omega) (by decide) (by decide) (by decide)) (cm_V 3 hts kc_X11_reads ki_RX11 kl_RX11_140 kv_X11_reads kx_X11_reads kd_X11_reads ⟨Nat.le_of_ble_eq_true rfl, Nat.le_of_ble_eq_true rfl⟩) (ty_preE (ci := 11) (q0 := 0) hP hK hD hS hA hX rfl rfl) rfl rfl hl.1 rfl (lv_room (Nat.le_of_ble_eq_true rfl)) dX11_readStatement_362 ⟨Nat.le_of_ble_eq_true rfl, Nat.le_of_ble_eq_true rfl⟩) (fun r_112 u H locs hw_113 hP hD hS => ?_)
                      obtain ⟨ws_114, mpt1_115, mwr1_116, mwk1_117, g1_118⟩ := u
                      obtain ⟨hT, hp_119⟩ := hw_113
                      have hp_119 : ((rp_we b mn (rp_sk b mn mpt)).toInt ≤ mpt1_115.toInt ∧ mpt1_115.toInt ≤ mn.toInt) ∧ ((r_112 = 0 ∧ rm_f (rp_rk b mn 0 500 (rp_we b mn (rp_sk b mn mpt))) (rp_rp b mn 0 500 (rp_we b mn (rp_sk b mn mpt))) mwk1_117 mwr1_116) ∨ (r_112 = 1 ∧ (rp_rk b mn 0 500 (rp_we b mn (rp_sk b mn mpt)) = 0 ∧ mwk1_117 = 0 ∧ mpt1_115 = rp_rp b mn 0 500 (rp_we b mn (rp_sk b mn mpt))) ∧ ∃ v : Int32, (0 ≤ v.toInt ∧ v.toInt ≤ 500) ∧ v.toInt = rp_rv b mn (rp_we b mn (rp_sk b mn mpt)) ∧ g1_118 = upd g (7 : Int32).toInt.toNat v)) := hp_119
                      obtain ⟨hP, hD⟩ := ty_shPD (w2 := ([(rf_MO mo mw ma mf m0 m1 mu mv u0 u1 iz th mb mn mpt1_115 (rp_sk b mn (rp_we b mn (rp_sk b mn mpt))) mwr1_116 mwk1_117 mlf men), (rf_RW ct 0 mb 800 b), (rf_RW ct 0 mf 958 g1_118)] ++ ws_114)) hP hD rfl
                      obtain ⟨hb_120, hc_121⟩ := hp_119
                      have hs_122 := rp_sk_b (b := b) (p := (rp_we b mn (rp_sk b mn mpt))) hmn.2 (by omega)
                      rcases hc_121 with ⟨rfl, hz_123⟩ | ⟨rfl, hz_124⟩
                      · refine lv_if_eq (tgt := 372) hx hb dX11_readStatement_365 (by decide) (fun _ => ?_) (fun hc => absurd (by decide) hc)
                        refine lv_iconst (v := 0) hx hb dX11_readStatement_372 (by decide) ?_
                        refine lv_goto (tgt := 381) hx hb dX11_readStatement_373 (by decide) ?_
                        exact W.zret (v := 0) hx hb hr (by decide) (fun t ht hW => ⟨⟨0, (ws_114, mpt1_115, (rp_sk b mn (rp_we b mn (rp_sk b mn mpt))), mwr1_116, mwk1_117, g1_118), rfl, ⟨hT, ⟨by omega, Or.inl ⟨rfl, (rm_fB (rm_fe (hz_123) (rm_t0 (N := N) (np := (g 10).toInt) (nc := (g 9).toInt) (rm_e_amb hz_104).1 (rm_e_amb hz_104).2.1 (rm_e_amb hz_104).2.2).1 (rm_t0 (N := N) (np := (g 10).toInt) (nc := (g 9).toInt) (rm_e_amb hz_104).1 (rm_e_amb hz_104).2.1 (rm_e_amb hz_104).2.2).2.1))⟩⟩⟩, by rw [ht]; exact hP, by rw [hAe]; exact hD⟩, hS.F ht⟩) hS.2.2 dX11_readStatement_381
                      · obtain ⟨⟨hk_125, hwk_126, hpt_127⟩, v_128, hv_129, hvv_130, hg_131⟩ := hz_124
                        have hb_132 := hb_120
                        subst hwk_126
                        subst hpt_127
                        have hz_135 : (7 : Int32).toInt = 7 := (by decide)
                        have hL_133 : rf_L g1_118 := by rw [hg_131]; exact rf_Lset hL (by omega)
                        have hs_134 := rm_set1 hN (rm_NL hN hL) (by decide) hg_131
                        refine lv_if_eq (tgt := 372) hx hb dX11_readStatement_365 (by decide) (fun hc => absurd hc (by decide)) (fun _ => ?_)
                        refine lv_iconst (v := 1) hx hb dX11_readStatement_368 (by decide) ?_
                        refine lv_goto (tgt := 381) hx hb dX11_readStatement_369 (by decide) ?_
                        exact W.zret (v := 1) hx hb hr (by decide) (fun t ht hW => ⟨⟨1, (ws_114, (rp_rp b mn 0 500 (rp_we b mn (rp_sk b mn mpt))), (rp_sk b mn (rp_we b mn (rp_sk b mn mpt))), mwr1_116, (0 : Int32), g1_118), rfl, ⟨hT, ⟨by omega, Or.inr ⟨rfl, (rm_t0 (N := N) (np := (g 10).toInt) (nc := (g 9).toInt) (rm_e_amb hz_104).1 (rm_e_amb hz_104).2.1 (rm_e_amb hz_104).2.2).1.trans hk_125, rfl, (by rw [(rm_t0 (N := N) (np := (g 10).toInt) (nc := (g 9).toInt) (rm_e_amb hz_104).1 (rm_e_amb hz_104).2.1 (rm_e_amb hz_104).2.2).2.1]), hL_133, (by rw [(rm_t0 (N := N) (np := (g 10).toInt) (nc := (g 9).toInt) (rm_e_amb hz_104).1 (rm_e_amb hz_104).2.1 (rm_e_amb hz_104).2.2).2.2.1]; exact hs_134.1), (by rw [(hs_134.2.1.trans (rfl : g 9 = g 9)), (rm_t0 (N := N) (np := (g 10).toInt) (nc := (g 9).toInt) (rm_e_amb hz_104).1 (rm_e_amb hz_104).2.1 (rm_e_amb hz_104).2.2).2.2.2.1]), (by rw [(hs_134.2.2.trans (rfl : g 10 = g 10)), (rm_t0 (N := N) (np := (g 10).toInt) (nc := (g 9).toInt) (rm_e_amb hz_104).1 (rm_e_amb hz_104).2.1 (rm_e_amb hz_104).2.2).2.2.2.2]), (by unfold rq_t; rw [(rm_e_amb hz_104).1]; exact (rq_s1 (k := 7) (by decide) rfl hg_131 hvv_130).trans (rq_set_amb hz_104).symm)⟩⟩⟩, by rw [ht]; exact hP, by rw [hAe]; exact hD⟩, hS.F ht⟩) hS.2.2 dX11_readStatement_381
                  · refine lv_if_eq (tgt := 339) hx hb dX11_readStatement_310 (by decide) (fun hc => absurd hc (by decide)) (fun _ => ?_)
                    refine lv_aload_n hx hb dX11_readStatement_313 rfl (lv_at hl 0 rfl) ?_
                    obtain ⟨hP, hD⟩ := ty_ipPD (E1 := [(rf_RW ct 0 mf 958 g)]) (E2 := [(rf_MO mo mw ma mf m0 m1 mu mv u0 u1 iz th mb mn (rp_sk b mn mpt) (rp_sk b mn mpt) mwr (0) mlf men), (rf_RW ct 0 mb 800 b)]) hP hD rfl ty_mva
                    refine ty_Ki hP hD hS hA (va_runV (As := []) (rest := []) ⟨hx, hb, hml, hown, hts⟩ (m_X11_passes l D ct S ws_91 ph xx mo mw ma mf m0 m1 mu mv u0 u1 iz mb th mn (rp_sk b mn mpt) (rp_sk b mn mpt) mwr (0 : Int32) mlf men b _ hT hph hy1 hmn (by omega)) (cm_V 0 hts kc_X11_passes ki_RX11 kl_RX11_133 kv_X11_passes kx_X11_passes kd_X11_passes ⟨Nat.le_of_ble_eq_true rfl, Nat.le_of_ble_eq_true rfl⟩) (ty_preE (ci := 11) (q0 := 1) hP hK hD hS hA hX rfl rfl) rfl rfl hl.1 rfl (lv_room (Nat.le_of_ble_eq_true rfl)) dX11_readStatement_314 ⟨Nat.le_of_ble_eq_true rfl, Nat.le_of_ble_eq_true rfl⟩) (fun r_136 u H locs hw_137 hP hD hS => ?_)
                    obtain ⟨ws_138, rfl⟩ : ∃ z, z = u := ⟨_, rfl⟩
                    obtain ⟨hT, rfl⟩ := hw_137
                    obtain ⟨hP, hD⟩ := ty_shPD (w2 := ([(rf_RW ct 0 mf 958 g), (rf_MO mo mw ma mf m0 m1 mu mv u0 u1 iz th mb mn (rp_we b mn (rp_sk b mn mpt)) (rp_sk b mn mpt) mwr (0) mlf men), (rf_RW ct 0 mb 800 b)] ++ ws_138)) hP hD rfl
                    have hs_139 := rp_we_b (b := b) (p := (rp_sk b mn mpt)) hmn.2 (by omega)
                    refine lv_if_eq (tgt := 337) hx hb dX11_readStatement_317 (by decide) (fun hc => absurd hc (by decide)) (fun _ => ?_)
                    refine lv_aload_n hx hb dX11_readStatement_320 rfl (lv_at hl 0 rfl) ?_
                    refine lv_bipush (v := 16) hx hb dX11_readStatement_321 (by decide) ?_
                    refine lv_iconst (v := 0) hx hb dX11_readStatement_323 (by decide) ?_
                    refine lv_sipush (v := 200) hx hb dX11_readStatement_324 (by decide) ?_
                    obtain ⟨hP, hD⟩ := ty_opPD (E1 := []) (E2 := [(rf_MO mo mw ma mf m0 m1 mu mv u0 u1 iz th mb mn (rp_we b mn (rp_sk b mn mpt)) (rp_sk b mn mpt) mwr (0) mlf men), (rf_RW ct 0 mb 800 b), (rf_RW ct 0 mf 958 g)]) (n := 3) [1, 2, 0] hP hD rfl rfl (by decide +kernel) ty_mva
                    refine ty_Ki hP hD hS hA (va_runV (As := [.int 16, .int 0, .int 200]) (rest := []) ⟨hx, hb, hml, hown, hts⟩ (m_X11_reads l D ct S ws_138 ph xx mo mw ma mf m0 m1 mu mv u0 u1 iz mb th mn (rp_we b mn (rp_sk b mn mpt)) (rp_sk b mn mpt) mwr mlf men b (16 : Int32) (0 : Int32) (200 : Int32) g 0 200 _ hT hph hy1 hmn (by omega) (by decide) (by decide) (by decide)) (cm_V 3 hts kc_X11_reads ki_RX11 kl_RX11_140 kv_X11_reads kx_X11_reads kd_X11_reads ⟨Nat.le_of_ble_eq_true rfl, Nat.le_of_ble_eq_true rfl⟩) (ty_preE (ci := 11) (q0 := 0) hP hK hD hS hA hX rfl rfl) rfl rfl hl.1 rfl (lv_room (Nat.le_of_ble_eq_true rfl)) dX11_readStatement_327 ⟨Nat.le_of_ble_eq_true rfl, Nat.le_of_ble_eq_true rfl⟩) (fun r_140 u H locs hw_141 hP hD hS => ?_)
                    obtain ⟨ws_142, mpt1_143, mwr1_144, mwk1_145, g1_146⟩ := u
                    obtain ⟨hT, hp_147⟩ := hw_141
                    have hp_147 : ((rp_we b mn (rp_sk b mn mpt)).toInt ≤ mpt1_143.toInt ∧ mpt1_143.toInt ≤ mn.toInt) ∧ ((r_140 = 0 ∧ rm_f (rp_rk b mn 0 200 (rp_we b mn (rp_sk b mn mpt))) (rp_rp b mn 0 200 (rp_we b mn (rp_sk b mn mpt))) mwk1_145 mwr1_144) ∨ (r_140 = 1 ∧ (rp_rk b mn 0 200 (rp_we b mn (rp_sk b mn mpt)) = 0 ∧ mwk1_145 = 0 ∧ mpt1_143 = rp_rp b mn 0 200 (rp_we b mn (rp_sk b mn mpt))) ∧ ∃ v : Int32, (0 ≤ v.toInt ∧ v.toInt ≤ 200) ∧ v.toInt = rp_rv b mn (rp_we b mn (rp_sk b mn mpt)) ∧ g1_146 = upd g (16 : Int32).toInt.toNat v)) := hp_147
                    obtain ⟨hP, hD⟩ := ty_shPD (w2 := ([(rf_MO mo mw ma mf m0 m1 mu mv u0 u1 iz th mb mn mpt1_143 (rp_sk b mn (rp_we b mn (rp_sk b mn mpt))) mwr1_144 mwk1_145 mlf men), (rf_RW ct 0 mb 800 b), (rf_RW ct 0 mf 958 g1_146)] ++ ws_142)) hP hD rfl
                    obtain ⟨hb_148, hc_149⟩ := hp_147
                    have hs_150 := rp_sk_b (b := b) (p := (rp_we b mn (rp_sk b mn mpt))) hmn.2 (by omega)
                    rcases hc_149 with ⟨rfl, hz_151⟩ | ⟨rfl, hz_152⟩
                    · refine lv_if_eq (tgt := 337) hx hb dX11_readStatement_330 (by decide) (fun _ => ?_) (fun hc => absurd (by decide) hc)
                      refine lv_iconst (v := 0) hx hb dX11_readStatement_337 (by decide) ?_
                      exact W.zret (v := 0) hx hb hr (by decide) (fun t ht hW => ⟨⟨0, (ws_142, mpt1_143, (rp_sk b mn (rp_we b mn (rp_sk b mn mpt))), mwr1_144, mwk1_145, g1_146), rfl, ⟨hT, ⟨by omega, Or.inl ⟨rfl, (rm_fB (rm_fe (hz_151) (rm_t0 (N := N) (np := (g 10).toInt) (nc := (g 9).toInt) (rm_e_der hz_94).1 (rm_e_der hz_94).2.1 (rm_e_der hz_94).2.2).1 (rm_t0 (N := N) (np := (g 10).toInt) (nc := (g 9).toInt) (rm_e_der hz_94).1 (rm_e_der hz_94).2.1 (rm_e_der hz_94).2.2).2.1))⟩⟩⟩, by rw [ht]; exact hP, by rw [hAe]; exact hD⟩, hS.F ht⟩) hS.2.2 dX11_readStatement_338
                    · obtain ⟨⟨hk_153, hwk_154, hpt_155⟩, v_156, hv_157, hvv_158, hg_159⟩ := hz_152
                      have hb_160 := hb_148
                      subst hwk_154
                      subst hpt_155
                      have hz_163 : (16 : Int32).toInt = 16 := (by decide)
                      have hL_161 : rf_L g1_146 := by rw [hg_159]; exact rf_Lset hL (by omega)
                      have hs_162 := rm_set1 hN (rm_NL hN hL) (by decide) hg_159
                      refine lv_if_eq (tgt := 337) hx hb dX11_readStatement_330 (by decide) (fun hc => absurd hc (by decide)) (fun _ => ?_)
                      refine lv_iconst (v := 1) hx hb dX11_readStatement_333 (by decide) ?_
                      refine lv_goto (tgt := 338) hx hb dX11_readStatement_334 (by decide) ?_
                      exact W.zret (v := 1) hx hb hr (by decide) (fun t ht hW => ⟨⟨1, (ws_142, (rp_rp b mn 0 200 (rp_we b mn (rp_sk b mn mpt))), (rp_sk b mn (rp_we b mn (rp_sk b mn mpt))), mwr1_144, (0 : Int32), g1_146), rfl, ⟨hT, ⟨by omega, Or.inr ⟨rfl, (rm_t0 (N := N) (np := (g 10).toInt) (nc := (g 9).toInt) (rm_e_der hz_94).1 (rm_e_der hz_94).2.1 (rm_e_der hz_94).2.2).1.trans hk_153, rfl, (by rw [(rm_t0 (N := N) (np := (g 10).toInt) (nc := (g 9).toInt) (rm_e_der hz_94).1 (rm_e_der hz_94).2.1 (rm_e_der hz_94).2.2).2.1]), hL_161, (by rw [(rm_t0 (N := N) (np := (g 10).toInt) (nc := (g 9).toInt) (rm_e_der hz_94).1 (rm_e_der hz_94).2.1 (rm_e_der hz_94).2.2).2.2.1]; exact hs_162.1), (by rw [(hs_162.2.1.trans (rfl : g 9 = g 9)), (rm_t0 (N := N) (np := (g 10).toInt) (nc := (g 9).toInt) (rm_e_der hz_94).1 (rm_e_der hz_94).2.1 (rm_e_der hz_94).2.2).2.2.2.1]), (by rw [(hs_162.2.2.trans (rfl : g 10 = g 10)), (rm_t0 (N := N) (np := (g 10).toInt) (nc := (g 9).toInt) (rm_e_der hz_94).1 (rm_e_der hz_94).2.1 (rm_e_der hz_94).2.2).2.2.2.2]), (by unfold rq_t; rw [(rm_e_der hz_94).1]; exact (rq_s1 (k := 16) (by decide) rfl hg_159 hvv_158).trans (rq_set_der hz_94).symm)⟩⟩⟩, by rw [ht]; exact hP, by rw [hAe]; exact hD⟩, hS.F ht⟩) hS.2.2 dX11_readStatement_338
                · refine lv_if_eq (tgt := 304) hx hb dX11_readStatement_243 (by decide) (fun hc => absurd hc (by decide)) (fun _ => ?_)
                  refine lv_aload_n hx hb dX11_readStatement_246 rfl (lv_at hl 0 rfl) ?_
                  obtain ⟨hP, hD⟩ := ty_ipPD (E1 := [(rf_RW ct 0 mf 958 g)]) (E2 := [(rf_MO mo mw ma mf m0 m1 mu mv u0 u1 iz th mb mn (rp_sk b mn mpt) (rp_sk b mn mpt) mwr (0) mlf men), (rf_RW ct 0 mb 800 b)]) hP hD rfl ty_mva
                  refine ty_Ki hP hD hS hA (va_runV (As := []) (rest := []) ⟨hx, hb, hml, hown, hts⟩ (m_X11_passes l D ct S ws_81 ph xx mo mw ma mf m0 m1 mu mv u0 u1 iz mb th mn (rp_sk b mn mpt) (rp_sk b mn mpt) mwr (0 : Int32) mlf men b _ hT hph hy1 hmn (by omega)) (cm_V 0 hts kc_X11_passes ki_RX11 kl_RX11_133 kv_X11_passes kx_X11_passes kd_X11_passes ⟨Nat.le_of_ble_eq_true rfl, Nat.le_of_ble_eq_true rfl⟩) (ty_preE (ci := 11) (q0 := 1) hP hK hD hS hA hX rfl rfl) rfl rfl hl.1 rfl (lv_room (Nat.le_of_ble_eq_true rfl)) dX11_readStatement_247 ⟨Nat.le_of_ble_eq_true rfl, Nat.le_of_ble_eq_true rfl⟩) (fun r_164 u H locs hw_165 hP hD hS => ?_)
                  obtain ⟨ws_166, rfl⟩ : ∃ z, z = u := ⟨_, rfl⟩
                  obtain ⟨hT, rfl⟩ := hw_165
                  obtain ⟨hP, hD⟩ := ty_shPD (w2 := ([(rf_RW ct 0 mf 958 g), (rf_MO mo mw ma mf m0 m1 mu mv u0 u1 iz th mb mn (rp_we b mn (rp_sk b mn mpt)) (rp_sk b mn mpt) mwr (0) mlf men), (rf_RW ct 0 mb 800 b)] ++ ws_166)) hP hD rfl
                  have hs_167 := rp_we_b (b := b) (p := (rp_sk b mn mpt)) hmn.2 (by omega)
                  refine lv_if_eq (tgt := 302) hx hb dX11_readStatement_250 (by decide) (fun hc => absurd hc (by decide)) (fun _ => ?_)
                  refine lv_aload_n hx hb dX11_readStatement_253 rfl (lv_at hl 0 rfl) ?_
                  refine lv_bipush (v := 13) hx hb dX11_readStatement_254 (by decide) ?_
                  refine lv_iconst (v := 0) hx hb dX11_readStatement_256 (by decide) ?_
                  refine lv_sipush (v := 5000) hx hb dX11_readStatement_257 (by decide) ?_
                  obtain ⟨hP, hD⟩ := ty_opPD (E1 := []) (E2 := [(rf_MO mo mw ma mf m0 m1 mu mv u0 u1 iz th mb mn (rp_we b mn (rp_sk b mn mpt)) (rp_sk b mn mpt) mwr (0) mlf men), (rf_RW ct 0 mb 800 b), (rf_RW ct 0 mf 958 g)]) (n := 3) [1, 2, 0] hP hD rfl rfl (by decide +kernel) ty_mva
                  refine ty_Ki hP hD hS hA (va_runV (As := [.int 13, .int 0, .int 5000]) (rest := []) ⟨hx, hb, hml, hown, hts⟩ (m_X11_reads l D ct S ws_166 ph xx mo mw ma mf m0 m1 mu mv u0 u1 iz mb th mn (rp_we b mn (rp_sk b mn mpt)) (rp_sk b mn mpt) mwr mlf men b (13 : Int32) (0 : Int32) (5000 : Int32) g 0 5000 _ hT hph hy1 hmn (by omega) (by decide) (by decide) (by decide)) (cm_V 3 hts kc_X11_reads ki_RX11 kl_RX11_140 kv_X11_reads kx_X11_reads kd_X11_reads ⟨Nat.le_of_ble_eq_true rfl, Nat.le_of_ble_eq_true rfl⟩) (ty_preE (ci := 11) (q0 := 0) hP hK hD hS hA hX rfl rfl) rfl rfl hl.1 rfl (lv_room (Nat.le_of_ble_eq_true rfl)) dX11_readStatement_260 ⟨Nat.le_of_ble_eq_true rfl, Nat.le_of_ble_eq_true rfl⟩) (fun r_168 u H locs hw_169 hP hD hS => ?_)
                  obtain ⟨ws_170, mpt1_171, mwr1_172, mwk1_173, g1_174⟩ := u
                  obtain ⟨hT, hp_175⟩ := hw_169
                  have hp_175 : ((rp_we b mn (rp_sk b mn mpt)).toInt ≤ mpt1_171.toInt ∧ mpt1_171.toInt ≤ mn.toInt) ∧ ((r_168 = 0 ∧ rm_f (rp_rk b mn 0 5000 (rp_we b mn (rp_sk b mn mpt))) (rp_rp b mn 0 5000 (rp_we b mn (rp_sk b mn mpt))) mwk1_173 mwr1_172) ∨ (r_168 = 1 ∧ (rp_rk b mn 0 5000 (rp_we b mn (rp_sk b mn mpt)) = 0 ∧ mwk1_173 = 0 ∧ mpt1_171 = rp_rp b mn 0 5000 (rp_we b mn (rp_sk b mn mpt))) ∧ ∃ v : Int32, (0 ≤ v.toInt ∧ v.toInt ≤ 5000) ∧ v.toInt = rp_rv b mn (rp_we b mn (rp_sk b mn mpt)) ∧ g1_174 = upd g (13 : Int32).toInt.toNat v)) := hp_175
                  obtain ⟨hP, hD⟩ := ty_shPD (w2 := ([(rf_MO mo mw ma mf m0 m1 mu mv u0 u1 iz th mb mn mpt1_171 (rp_sk b mn (rp_we b mn (rp_sk b mn mpt))) mwr1_172 mwk1_173 mlf men), (rf_RW ct 0 mb 800 b), (rf_RW ct 0 mf 958 g1_174)] ++ ws_170)) hP hD rfl
                  obtain ⟨hb_176, hc_177⟩ := hp_175
                  have hs_178 := rp_sk_b (b := b) (p := (rp_we b mn (rp_sk b mn mpt))) hmn.2 (by omega)
                  rcases hc_177 with ⟨rfl, hz_179⟩ | ⟨rfl, hz_180⟩
                  · refine lv_if_eq (tgt := 302) hx hb dX11_readStatement_263 (by decide) (fun _ => ?_) (fun hc => absurd (by decide) hc)
                    refine lv_iconst (v := 0) hx hb dX11_readStatement_302 (by decide) ?_
                    exact W.zret (v := 0) hx hb hr (by decide) (fun t ht hW => ⟨⟨0, (ws_170, mpt1_171, (rp_sk b mn (rp_we b mn (rp_sk b mn mpt))), mwr1_172, mwk1_173, g1_174), rfl, ⟨hT, ⟨by omega, Or.inl ⟨rfl, (rm_fB (rm_fe (rm_s3a hz_179) (rm_t0 (N := N) (np := (g 10).toInt) (nc := (g 9).toInt) (rm_e_war hz_84).1 (rm_e_war hz_84).2.1 (rm_e_war hz_84).2.2).1 (rm_t0 (N := N) (np := (g 10).toInt) (nc := (g 9).toInt) (rm_e_war hz_84).1 (rm_e_war hz_84).2.1 (rm_e_war hz_84).2.2).2.1))⟩⟩⟩, by rw [ht]; exact hP, by rw [hAe]; exact hD⟩, hS.F ht⟩) hS.2.2 dX11_readStatement_303
                  · obtain ⟨⟨hk_181, hwk_182, hpt_183⟩, v_184, hv_185, hvv_186, hg_187⟩ := hz_180
                    have hb_188 := hb_176
                    subst hwk_182
                    subst hpt_183
                    have hz_191 : (13 : Int32).toInt = 13 := (by decide)
                    have hL_189 : rf_L g1_174 := by rw [hg_187]; exact rf_Lset hL (by omega)
                    have hs_190 := rm_set1 hN (rm_NL hN hL) (by decide) hg_187
                    refine lv_if_eq (tgt := 302) hx hb dX11_readStatement_263 (by decide) (fun hc => absurd hc (by decide)) (fun _ => ?_)
                    refine lv_aload_n hx hb dX11_readStatement_266 rfl (lv_at hl 0 rfl) ?_
                    refine lv_bipush (v := 14) hx hb dX11_readStatement_267 (by decide) ?_
                    refine lv_aload_n hx hb dX11_readStatement_269 rfl (lv_at hl 0 rfl) ?_
                    refine va_get (v := .ref mf) (D := D) (ci := 11) (C := RX11) (T := TX11) (N := 19) hx hb hts in_X11 hown hK hP 0 rfl rfl 2 (by decide) (hts _ kl_RX11_16) (fun _ h9 => h9) rfl dX11_readStatement_270 ?_
                    refine lv_bipush (v := 13) hx hb dX11_readStatement_273 (by decide) ?_
                    refine va_iald hx hb hK hP 2 0 rfl rfl (cm_vin (by decide)) dX11_readStatement_275 ?_
                    refine cm_cst (y := (g1_174 13)) (by first | rfl | decide +kernel) ?_
                    refine lv_sipush (v := 5000) hx hb dX11_readStatement_276 (by decide) ?_
                    obtain ⟨hP, hD⟩ := ty_ipPD (E1 := []) (E2 := [(rf_MO mo mw ma mf m0 m1 mu mv u0 u1 iz th mb mn (rp_rp b mn 0 5000 (rp_we b mn (rp_sk b mn mpt))) (rp_sk b mn (rp_we b mn (rp_sk b mn mpt))) mwr1_172 (0) mlf men), (rf_RW ct 0 mb 800 b), (rf_RW ct 0 mf 958 g1_174)]) hP hD rfl ty_mva
                    refine ty_Ki hP hD hS hA (va_runV (As := [.int 14, .int (g1_174 13), .int 5000]) (rest := []) ⟨hx, hb, hml, hown, hts⟩ (m_X11_reads l D ct S ws_170 ph xx mo mw ma mf m0 m1 mu mv u0 u1 iz mb th mn (rp_rp b mn 0 5000 (rp_we b mn (rp_sk b mn mpt))) (rp_sk b mn (rp_we b mn (rp_sk b mn mpt))) mwr1_172 mlf men b (14 : Int32) (g1_174 13) (5000 : Int32) g1_174 (rp_rv b mn (rp_we b mn (rp_sk b mn mpt))) 5000 _ hT hph hy1 hmn (by omega) (by decide) (rm_setv hg_187 (by decide) hvv_186) (by decide)) (cm_V 3 hts kc_X11_reads ki_RX11 kl_RX11_140 kv_X11_reads kx_X11_reads kd_X11_reads ⟨Nat.le_of_ble_eq_true rfl, Nat.le_of_ble_eq_true rfl⟩) (ty_preE (ci := 11) (q0 := 0) hP hK hD hS hA hX rfl rfl) rfl rfl hl.1 rfl (lv_room (Nat.le_of_ble_eq_true rfl)) dX11_readStatement_279 ⟨Nat.le_of_ble_eq_true rfl, Nat.le_of_ble_eq_true rfl⟩) (fun r_192 u H locs hw_193 hP hD hS => ?_)
                    obtain ⟨ws_194, mpt1_195, mwr1_196, mwk1_197, g1_198⟩ := u
                    obtain ⟨hT, hp_199⟩ := hw_193
                    have hp_199 : ((rp_rp b mn 0 5000 (rp_we b mn (rp_sk b mn mpt))).toInt ≤ mpt1_195.toInt ∧ mpt1_195.toInt ≤ mn.toInt) ∧ ((r_192 = 0 ∧ rm_f (rp_rk b mn (rp_rv b mn (rp_we b mn (rp_sk b mn mpt))) 5000 (rp_rp b mn 0 5000 (rp_we b mn (rp_sk b mn mpt)))) (rp_rp b mn (rp_rv b mn (rp_we b mn (rp_sk b mn mpt))) 5000 (rp_rp b mn 0 5000 (rp_we b mn (rp_sk b mn mpt)))) mwk1_197 mwr1_196) ∨ (r_192 = 1 ∧ (rp_rk b mn (rp_rv b mn (rp_we b mn (rp_sk b mn mpt))) 5000 (rp_rp b mn 0 5000 (rp_we b mn (rp_sk b mn mpt))) = 0 ∧ mwk1_197 = 0 ∧ mpt1_195 = rp_rp b mn (rp_rv b mn (rp_we b mn (rp_sk b mn mpt))) 5000 (rp_rp b mn 0 5000 (rp_we b mn (rp_sk b mn mpt)))) ∧ ∃ v : Int32, ((rp_rv b mn (rp_we b mn (rp_sk b mn mpt))) ≤ v.toInt ∧ v.toInt ≤ 5000) ∧ v.toInt = rp_rv b mn (rp_rp b mn 0 5000 (rp_we b mn (rp_sk b mn mpt))) ∧ g1_198 = upd g1_174 (14 : Int32).toInt.toNat v)) := hp_199
                    obtain ⟨hP, hD⟩ := ty_shPD (w2 := ([(rf_MO mo mw ma mf m0 m1 mu mv u0 u1 iz th mb mn mpt1_195 (rp_sk b mn (rp_rp b mn 0 5000 (rp_we b mn (rp_sk b mn mpt)))) mwr1_196 mwk1_197 mlf men), (rf_RW ct 0 mb 800 b), (rf_RW ct 0 mf 958 g1_198)] ++ ws_194)) hP hD rfl
                    obtain ⟨hb_200, hc_201⟩ := hp_199
                    have hs_202 := rp_sk_b (b := b) (p := (rp_rp b mn 0 5000 (rp_we b mn (rp_sk b mn mpt)))) hmn.2 (by omega)
                    rcases hc_201 with ⟨rfl, hz_203⟩ | ⟨rfl, hz_204⟩
                    · refine lv_if_eq (tgt := 302) hx hb dX11_readStatement_282 (by decide) (fun _ => ?_) (fun hc => absurd (by decide) hc)
                      refine lv_iconst (v := 0) hx hb dX11_readStatement_302 (by decide) ?_
                      exact W.zret (v := 0) hx hb hr (by decide) (fun t ht hW => ⟨⟨0, (ws_194, mpt1_195, (rp_sk b mn (rp_rp b mn 0 5000 (rp_we b mn (rp_sk b mn mpt)))), mwr1_196, mwk1_197, g1_198), rfl, ⟨hT, ⟨by omega, Or.inl ⟨rfl, (rm_fB (rm_fe (rm_s3b hk_181 hz_203) (rm_t0 (N := N) (np := (g 10).toInt) (nc := (g 9).toInt) (rm_e_war hz_84).1 (rm_e_war hz_84).2.1 (rm_e_war hz_84).2.2).1 (rm_t0 (N := N) (np := (g 10).toInt) (nc := (g 9).toInt) (rm_e_war hz_84).1 (rm_e_war hz_84).2.1 (rm_e_war hz_84).2.2).2.1))⟩⟩⟩, by rw [ht]; exact hP, by rw [hAe]; exact hD⟩, hS.F ht⟩) hS.2.2 dX11_readStatement_303
                    · obtain ⟨⟨hk_205, hwk_206, hpt_207⟩, v_208, hv_209, hvv_210, hg_211⟩ := hz_204
                      have hb_212 := hb_200
                      subst hwk_206
                      subst hpt_207
                      have hz_215 : (14 : Int32).toInt = 14 := (by decide)
                      have hL_213 : rf_L g1_198 := by rw [hg_211]; exact rf_Lset hL_189 (by omega)
                      have hs_214 := rm_set1 hs_190.1 (rm_NL hN hL) (by decide) hg_211
                      refine lv_if_eq (tgt := 302) hx hb dX11_readStatement_282 (by decide) (fun hc => absurd hc (by decide)) (fun _ => ?_)
                      refine lv_aload_n hx hb dX11_readStatement_285 rfl (lv_at hl 0 rfl) ?_
                      refine lv_bipush (v := 15) hx hb dX11_readStatement_286 (by decide) ?_
                      refine lv_iconst (v := 0) hx hb dX11_readStatement_288 (by decide) ?_
                      refine lv_sipush (v := 1000) hx hb dX11_readStatement_289 (by decide) ?_
                      obtain ⟨hP, hD⟩ := ty_ipPD (E1 := []) (E2 := [(rf_MO mo mw ma mf m0 m1 mu mv u0 u1 iz th mb mn (rp_rp b mn (rp_rv b mn (rp_we b mn (rp_sk b mn mpt))) 5000 (rp_rp b mn 0 5000 (rp_we b mn (rp_sk b mn mpt)))) (rp_sk b mn (rp_rp b mn 0 5000 (rp_we b mn (rp_sk b mn mpt)))) mwr1_196 (0) mlf men), (rf_RW ct 0 mb 800 b), (rf_RW ct 0 mf 958 g1_198)]) hP hD rfl ty_mva
                      refine ty_Ki hP hD hS hA (va_runV (As := [.int 15, .int 0, .int 1000]) (rest := []) ⟨hx, hb, hml, hown, hts⟩ (m_X11_reads l D ct S ws_194 ph xx mo mw ma mf m0 m1 mu mv u0 u1 iz mb th mn (rp_rp b mn (rp_rv b mn (rp_we b mn (rp_sk b mn mpt))) 5000 (rp_rp b mn 0 5000 (rp_we b mn (rp_sk b mn mpt)))) (rp_sk b mn (rp_rp b mn 0 5000 (rp_we b mn (rp_sk b mn mpt)))) mwr1_196 mlf men b (15 : Int32) (0 : Int32) (1000 : Int32) g1_198 0 1000 _ hT hph hy1 hmn (by omega) (by decide) (by decide) (by decide)) (cm_V 3 hts kc_X11_reads ki_RX11 kl_RX11_140 kv_X11_reads kx_X11_reads kd_X11_reads ⟨Nat.le_of_ble_eq_true rfl, Nat.le_of_ble_eq_true rfl⟩) (ty_preE (ci := 11) (q0 := 0) hP hK hD hS hA hX rfl rfl) rfl rfl hl.1 rfl (lv_room (Nat.le_of_ble_eq_true rfl)) dX11_readStatement_292 ⟨Nat.le_of_ble_eq_true rfl, Nat.le_of_ble_eq_true rfl⟩) (fun r_216 u H locs hw_217 hP hD hS => ?_)
                      obtain ⟨ws_218, mpt1_219, mwr1_220, mwk1_221, g1_222⟩ := u
                      obtain ⟨hT, hp_223⟩ := hw_217
                      have hp_223 : ((rp_rp b mn (rp_rv b mn (rp_we b mn (rp_sk b mn mpt))) 5000 (rp_rp b mn 0 5000 (rp_we b mn (rp_sk b mn mpt)))).toInt ≤ mpt1_219.toInt ∧ mpt1_219.toInt ≤ mn.toInt) ∧ ((r_216 = 0 ∧ rm_f (rp_rk b mn 0 1000 (rp_rp b mn (rp_rv b mn (rp_we b mn (rp_sk b mn mpt))) 5000 (rp_rp b mn 0 5000 (rp_we b mn (rp_sk b mn mpt))))) (rp_rp b mn 0 1000 (rp_rp b mn (rp_rv b mn (rp_we b mn (rp_sk b mn mpt))) 5000 (rp_rp b mn 0 5000 (rp_we b mn (rp_sk b mn mpt))))) mwk1_221 mwr1_220) ∨ (r_216 = 1 ∧ (rp_rk b mn 0 1000 (rp_rp b mn (rp_rv b mn (rp_we b mn (rp_sk b mn mpt))) 5000 (rp_rp b mn 0 5000 (rp_we b mn (rp_sk b mn mpt)))) = 0 ∧ mwk1_221 = 0 ∧ mpt1_219 = rp_rp b mn 0 1000 (rp_rp b mn (rp_rv b mn (rp_we b mn (rp_sk b mn mpt))) 5000 (rp_rp b mn 0 5000 (rp_we b mn (rp_sk b mn mpt))))) ∧ ∃ v : Int32, (0 ≤ v.toInt ∧ v.toInt ≤ 1000) ∧ v.toInt = rp_rv b mn (rp_rp b mn (rp_rv b mn (rp_we b mn (rp_sk b mn mpt))) 5000 (rp_rp b mn 0 5000 (rp_we b mn (rp_sk b mn mpt)))) ∧ g1_222 = upd g1_198 (15 : Int32).toInt.toNat v)) := hp_223
                      obtain ⟨hP, hD⟩ := ty_shPD (w2 := ([(rf_MO mo mw ma mf m0 m1 mu mv u0 u1 iz th mb mn mpt1_219 (rp_sk b mn (rp_rp b mn (rp_rv b mn (rp_we b mn (rp_sk b mn mpt))) 5000 (rp_rp b mn 0 5000 (rp_we b mn (rp_sk b mn mpt))))) mwr1_220 mwk1_221 mlf men), (rf_RW ct 0 mb 800 b), (rf_RW ct 0 mf 958 g1_222)] ++ ws_218)) hP hD rfl
                      obtain ⟨hb_224, hc_225⟩ := hp_223
                      have hs_226 := rp_sk_b (b := b) (p := (rp_rp b mn (rp_rv b mn (rp_we b mn (rp_sk b mn mpt))) 5000 (rp_rp b mn 0 5000 (rp_we b mn (rp_sk b mn mpt))))) hmn.2 (by omega)
                      rcases hc_225 with ⟨rfl, hz_227⟩ | ⟨rfl, hz_228⟩
                      · refine lv_if_eq (tgt := 302) hx hb dX11_readStatement_295 (by decide) (fun _ => ?_) (fun hc => absurd (by decide) hc)
                        refine lv_iconst (v := 0) hx hb dX11_readStatement_302 (by decide) ?_
                        exact W.zret (v := 0) hx hb hr (by decide) (fun t ht hW => ⟨⟨0, (ws_218, mpt1_219, (rp_sk b mn (rp_rp b mn (rp_rv b mn (rp_we b mn (rp_sk b mn mpt))) 5000 (rp_rp b mn 0 5000 (rp_we b mn (rp_sk b mn mpt))))), mwr1_220, mwk1_221, g1_222), rfl, ⟨hT, ⟨by omega, Or.inl ⟨rfl, (rm_fB (rm_fe (rm_s3c hk_181 hk_205 hz_227) (rm_t0 (N := N) (np := (g 10).toInt) (nc := (g 9).toInt) (rm_e_war hz_84).1 (rm_e_war hz_84).2.1 (rm_e_war hz_84).2.2).1 (rm_t0 (N := N) (np := (g 10).toInt) (nc := (g 9).toInt) (rm_e_war hz_84).1 (rm_e_war hz_84).2.1 (rm_e_war hz_84).2.2).2.1))⟩⟩⟩, by rw [ht]; exact hP, by rw [hAe]; exact hD⟩, hS.F ht⟩) hS.2.2 dX11_readStatement_303
                      · obtain ⟨⟨hk_229, hwk_230, hpt_231⟩, v_232, hv_233, hvv_234, hg_235⟩ := hz_228
                        have hb_236 := hb_224
                        subst hwk_230
                        subst hpt_231
                        have hz_239 : (15 : Int32).toInt = 15 := (by decide)
                        have hL_237 : rf_L g1_222 := by rw [hg_235]; exact rf_Lset hL_213 (by omega)
                        have hs_238 := rm_set1 hs_214.1 (rm_NL hN hL) (by decide) hg_235
                        refine lv_if_eq (tgt := 302) hx hb dX11_readStatement_295 (by decide) (fun hc => absurd hc (by decide)) (fun _ => ?_)
                        refine lv_iconst (v := 1) hx hb dX11_readStatement_298 (by decide) ?_
                        refine lv_goto (tgt := 303) hx hb dX11_readStatement_299 (by decide) ?_
                        exact W.zret (v := 1) hx hb hr (by decide) (fun t ht hW => ⟨⟨1, (ws_218, (rp_rp b mn 0 1000 (rp_rp b mn (rp_rv b mn (rp_we b mn (rp_sk b mn mpt))) 5000 (rp_rp b mn 0 5000 (rp_we b mn (rp_sk b mn mpt))))), (rp_sk b mn (rp_rp b mn (rp_rv b mn (rp_we b mn (rp_sk b mn mpt))) 5000 (rp_rp b mn 0 5000 (rp_we b mn (rp_sk b mn mpt))))), mwr1_220, (0 : Int32), g1_222), rfl, ⟨hT, ⟨by omega, Or.inr ⟨rfl, (rm_t0 (N := N) (np := (g 10).toInt) (nc := (g 9).toInt) (rm_e_war hz_84).1 (rm_e_war hz_84).2.1 (rm_e_war hz_84).2.2).1.trans (rm_s3z hk_181 hk_205 hk_229).1, rfl, (by rw [(rm_t0 (N := N) (np := (g 10).toInt) (nc := (g 9).toInt) (rm_e_war hz_84).1 (rm_e_war hz_84).2.1 (rm_e_war hz_84).2.2).2.1]; exact congrArg (rp_sk b mn) (rm_s3z hk_181 hk_205 hk_229).2), hL_237, (by rw [(rm_t0 (N := N) (np := (g 10).toInt) (nc := (g 9).toInt) (rm_e_war hz_84).1 (rm_e_war hz_84).2.1 (rm_e_war hz_84).2.2).2.2.1]; exact hs_238.1), (by rw [(hs_238.2.1.trans (hs_214.2.1.trans (hs_190.2.1.trans (rfl : g 9 = g 9)))), (rm_t0 (N := N) (np := (g 10).toInt) (nc := (g 9).toInt) (rm_e_war hz_84).1 (rm_e_war hz_84).2.1 (rm_e_war hz_84).2.2).2.2.2.1]), (by rw [(hs_238.2.2.trans (hs_214.2.2.trans (hs_190.2.2.trans (rfl : g 10 = g 10)))), (rm_t0 (N := N) (np := (g 10).toInt) (nc := (g 9).toInt) (rm_e_war hz_84).1 (rm_e_war hz_84).2.1 (rm_e_war hz_84).2.2).2.2.2.2]), (by unfold rq_t; rw [(rm_e_war hz_84).1]; exact (rq_s1 (k := 15) (by decide) (rq_s1 (k := 14) (by decide) (rq_s1 (k := 13) (by decide) rfl hg_187 hvv_186) hg_211 hvv_210) hg_235 hvv_234).trans (rq_set_war hz_84).symm)⟩⟩⟩, by rw [ht]; exact hP, by rw [hAe]; exact hD⟩, hS.F ht⟩) hS.2.2 dX11_readStatement_303
              · refine lv_if_eq (tgt := 237) hx hb dX11_readStatement_177 (by decide) (fun hc => absurd hc (by decide)) (fun _ => ?_)
                refine lv_aload_n hx hb dX11_readStatement_180 rfl (lv_at hl 0 rfl) ?_
                obtain ⟨hP, hD⟩ := ty_ipPD (E1 := [(rf_RW ct 0 mf 958 g)]) (E2 := [(rf_MO mo mw ma mf m0 m1 mu mv u0 u1 iz th mb mn (rp_sk b mn mpt) (rp_sk b mn mpt) mwr (0) mlf men), (rf_RW ct 0 mb 800 b)]) hP hD rfl ty_mva
                refine ty_Ki hP hD hS hA (va_runV (As := []) (rest := []) ⟨hx, hb, hml, hown, hts⟩ (m_X11_passes l D ct S ws_71 ph xx mo mw ma mf m0 m1 mu mv u0 u1 iz mb th mn (rp_sk b mn mpt) (rp_sk b mn mpt) mwr (0 : Int32) mlf men b _ hT hph hy1 hmn (by omega)) (cm_V 0 hts kc_X11_passes ki_RX11 kl_RX11_133 kv_X11_passes kx_X11_passes kd_X11_passes ⟨Nat.le_of_ble_eq_true rfl, Nat.le_of_ble_eq_true rfl⟩) (ty_preE (ci := 11) (q0 := 1) hP hK hD hS hA hX rfl rfl) rfl rfl hl.1 rfl (lv_room (Nat.le_of_ble_eq_true rfl)) dX11_readStatement_181 ⟨Nat.le_of_ble_eq_true rfl, Nat.le_of_ble_eq_true rfl⟩) (fun r_240 u H locs hw_241 hP hD hS => ?_)
                obtain ⟨ws_242, rfl⟩ : ∃ z, z = u := ⟨_, rfl⟩
                obtain ⟨hT, rfl⟩ := hw_241
                obtain ⟨hP, hD⟩ := ty_shPD (w2 := ([(rf_RW ct 0 mf 958 g), (rf_MO mo mw ma mf m0 m1 mu mv u0 u1 iz th mb mn (rp_we b mn (rp_sk b mn mpt)) (rp_sk b mn mpt) mwr (0) mlf men), (rf_RW ct 0 mb 800 b)] ++ ws_242)) hP hD rfl
                have hs_243 := rp_we_b (b := b) (p := (rp_sk b mn mpt)) hmn.2 (by omega)
                refine lv_if_eq (tgt := 235) hx hb dX11_readStatement_184 (by decide) (fun hc => absurd hc (by decide)) (fun _ => ?_)
                refine lv_aload_n hx hb dX11_readStatement_187 rfl (lv_at hl 0 rfl) ?_
                refine lv_iconst (v := 4) hx hb dX11_readStatement_188 (by decide) ?_
                refine lv_iconst (v := 0) hx hb dX11_readStatement_189 (by decide) ?_
                refine lv_sipush (v := 5000) hx hb dX11_readStatement_190 (by decide) ?_
                obtain ⟨hP, hD⟩ := ty_opPD (E1 := []) (E2 := [(rf_MO mo mw ma mf m0 m1 mu mv u0 u1 iz th mb mn (rp_we b mn (rp_sk b mn mpt)) (rp_sk b mn mpt) mwr (0) mlf men), (rf_RW ct 0 mb 800 b), (rf_RW ct 0 mf 958 g)]) (n := 3) [1, 2, 0] hP hD rfl rfl (by decide +kernel) ty_mva
                refine ty_Ki hP hD hS hA (va_runV (As := [.int 4, .int 0, .int 5000]) (rest := []) ⟨hx, hb, hml, hown, hts⟩ (m_X11_reads l D ct S ws_242 ph xx mo mw ma mf m0 m1 mu mv u0 u1 iz mb th mn (rp_we b mn (rp_sk b mn mpt)) (rp_sk b mn mpt) mwr mlf men b (4 : Int32) (0 : Int32) (5000 : Int32) g 0 5000 _ hT hph hy1 hmn (by omega) (by decide) (by decide) (by decide)) (cm_V 3 hts kc_X11_reads ki_RX11 kl_RX11_140 kv_X11_reads kx_X11_reads kd_X11_reads ⟨Nat.le_of_ble_eq_true rfl, Nat.le_of_ble_eq_true rfl⟩) (ty_preE (ci := 11) (q0 := 0) hP hK hD hS hA hX rfl rfl) rfl rfl hl.1 rfl (lv_room (Nat.le_of_ble_eq_true rfl)) dX11_readStatement_193 ⟨Nat.le_of_ble_eq_true rfl, Nat.le_of_ble_eq_true rfl⟩) (fun r_244 u H locs hw_245 hP hD hS => ?_)
                obtain ⟨ws_246, mpt1_247, mwr1_248, mwk1_249, g1_250⟩ := u
                obtain ⟨hT, hp_251⟩ := hw_245
                have hp_251 : ((rp_we b mn (rp_sk b mn mpt)).toInt ≤ mpt1_247.toInt ∧ mpt1_247.toInt ≤ mn.toInt) ∧ ((r_244 = 0 ∧ rm_f (rp_rk b mn 0 5000 (rp_we b mn (rp_sk b mn mpt))) (rp_rp b mn 0 5000 (rp_we b mn (rp_sk b mn mpt))) mwk1_249 mwr1_248) ∨ (r_244 = 1 ∧ (rp_rk b mn 0 5000 (rp_we b mn (rp_sk b mn mpt)) = 0 ∧ mwk1_249 = 0 ∧ mpt1_247 = rp_rp b mn 0 5000 (rp_we b mn (rp_sk b mn mpt))) ∧ ∃ v : Int32, (0 ≤ v.toInt ∧ v.toInt ≤ 5000) ∧ v.toInt = rp_rv b mn (rp_we b mn (rp_sk b mn mpt)) ∧ g1_250 = upd g (4 : Int32).toInt.toNat v)) := hp_251
                obtain ⟨hP, hD⟩ := ty_shPD (w2 := ([(rf_MO mo mw ma mf m0 m1 mu mv u0 u1 iz th mb mn mpt1_247 (rp_sk b mn (rp_we b mn (rp_sk b mn mpt))) mwr1_248 mwk1_249 mlf men), (rf_RW ct 0 mb 800 b), (rf_RW ct 0 mf 958 g1_250)] ++ ws_246)) hP hD rfl
                obtain ⟨hb_252, hc_253⟩ := hp_251
                have hs_254 := rp_sk_b (b := b) (p := (rp_we b mn (rp_sk b mn mpt))) hmn.2 (by omega)
                rcases hc_253 with ⟨rfl, hz_255⟩ | ⟨rfl, hz_256⟩
                · refine lv_if_eq (tgt := 235) hx hb dX11_readStatement_196 (by decide) (fun _ => ?_) (fun hc => absurd (by decide) hc)
                  refine lv_iconst (v := 0) hx hb dX11_readStatement_235 (by decide) ?_
                  exact W.zret (v := 0) hx hb hr (by decide) (fun t ht hW => ⟨⟨0, (ws_246, mpt1_247, (rp_sk b mn (rp_we b mn (rp_sk b mn mpt))), mwr1_248, mwk1_249, g1_250), rfl, ⟨hT, ⟨by omega, Or.inl ⟨rfl, (rm_fB (rm_fe (rm_s3a hz_255) (rm_t0 (N := N) (np := (g 10).toInt) (nc := (g 9).toInt) (rm_e_lim hz_74).1 (rm_e_lim hz_74).2.1 (rm_e_lim hz_74).2.2).1 (rm_t0 (N := N) (np := (g 10).toInt) (nc := (g 9).toInt) (rm_e_lim hz_74).1 (rm_e_lim hz_74).2.1 (rm_e_lim hz_74).2.2).2.1))⟩⟩⟩, by rw [ht]; exact hP, by rw [hAe]; exact hD⟩, hS.F ht⟩) hS.2.2 dX11_readStatement_236
                · obtain ⟨⟨hk_257, hwk_258, hpt_259⟩, v_260, hv_261, hvv_262, hg_263⟩ := hz_256
                  have hb_264 := hb_252
                  subst hwk_258
                  subst hpt_259
                  have hz_267 : (4 : Int32).toInt = 4 := (by decide)
                  have hL_265 : rf_L g1_250 := by rw [hg_263]; exact rf_Lset hL (by omega)
                  have hs_266 := rm_set1 hN (rm_NL hN hL) (by decide) hg_263
                  refine lv_if_eq (tgt := 235) hx hb dX11_readStatement_196 (by decide) (fun hc => absurd hc (by decide)) (fun _ => ?_)
                  refine lv_aload_n hx hb dX11_readStatement_199 rfl (lv_at hl 0 rfl) ?_
                  refine lv_iconst (v := 5) hx hb dX11_readStatement_200 (by decide) ?_
                  refine lv_aload_n hx hb dX11_readStatement_201 rfl (lv_at hl 0 rfl) ?_
                  refine va_get (v := .ref mf) (D := D) (ci := 11) (C := RX11) (T := TX11) (N := 19) hx hb hts in_X11 hown hK hP 0 rfl rfl 2 (by decide) (hts _ kl_RX11_16) (fun _ h9 => h9) rfl dX11_readStatement_202 ?_
                  refine lv_iconst (v := 4) hx hb dX11_readStatement_205 (by decide) ?_
                  refine va_iald hx hb hK hP 2 0 rfl rfl (cm_vin (by decide)) dX11_readStatement_206 ?_
                  refine cm_cst (y := (g1_250 4)) (by first | rfl | decide +kernel) ?_
                  refine lv_sipush (v := 5000) hx hb dX11_readStatement_207 (by decide) ?_
                  obtain ⟨hP, hD⟩ := ty_ipPD (E1 := []) (E2 := [(rf_MO mo mw ma mf m0 m1 mu mv u0 u1 iz th mb mn (rp_rp b mn 0 5000 (rp_we b mn (rp_sk b mn mpt))) (rp_sk b mn (rp_we b mn (rp_sk b mn mpt))) mwr1_248 (0) mlf men), (rf_RW ct 0 mb 800 b), (rf_RW ct 0 mf 958 g1_250)]) hP hD rfl ty_mva
                  refine ty_Ki hP hD hS hA (va_runV (As := [.int 5, .int (g1_250 4), .int 5000]) (rest := []) ⟨hx, hb, hml, hown, hts⟩ (m_X11_reads l D ct S ws_246 ph xx mo mw ma mf m0 m1 mu mv u0 u1 iz mb th mn (rp_rp b mn 0 5000 (rp_we b mn (rp_sk b mn mpt))) (rp_sk b mn (rp_we b mn (rp_sk b mn mpt))) mwr1_248 mlf men b (5 : Int32) (g1_250 4) (5000 : Int32) g1_250 (rp_rv b mn (rp_we b mn (rp_sk b mn mpt))) 5000 _ hT hph hy1 hmn (by omega) (by decide) (rm_setv hg_263 (by decide) hvv_262) (by decide)) (cm_V 3 hts kc_X11_reads ki_RX11 kl_RX11_140 kv_X11_reads kx_X11_reads kd_X11_reads ⟨Nat.le_of_ble_eq_true rfl, Nat.le_of_ble_eq_true rfl⟩) (ty_preE (ci := 11) (q0 := 0) hP hK hD hS hA hX rfl rfl) rfl rfl hl.1 rfl (lv_room (Nat.le_of_ble_eq_true rfl)) dX11_readStatement_210 ⟨Nat.le_of_ble_eq_true rfl, Nat.le_of_ble_eq_true rfl⟩) (fun r_268 u H locs hw_269 hP hD hS => ?_)
                  obtain ⟨ws_270, mpt1_271, mwr1_272, mwk1_273, g1_274⟩ := u
                  obtain ⟨hT, hp_275⟩ := hw_269
                  have hp_275 : ((rp_rp b mn 0 5000 (rp_we b mn (rp_sk b mn mpt))).toInt ≤ mpt1_271.toInt ∧ mpt1_271.toInt ≤ mn.toInt) ∧ ((r_268 = 0 ∧ rm_f (rp_rk b mn (rp_rv b mn (rp_we b mn (rp_sk b mn mpt))) 5000 (rp_rp b mn 0 5000 (rp_we b mn (rp_sk b mn mpt)))) (rp_rp b mn (rp_rv b mn (rp_we b mn (rp_sk b mn mpt))) 5000 (rp_rp b mn 0 5000 (rp_we b mn (rp_sk b mn mpt)))) mwk1_273 mwr1_272) ∨ (r_268 = 1 ∧ (rp_rk b mn (rp_rv b mn (rp_we b mn (rp_sk b mn mpt))) 5000 (rp_rp b mn 0 5000 (rp_we b mn (rp_sk b mn mpt))) = 0 ∧ mwk1_273 = 0 ∧ mpt1_271 = rp_rp b mn (rp_rv b mn (rp_we b mn (rp_sk b mn mpt))) 5000 (rp_rp b mn 0 5000 (rp_we b mn (rp_sk b mn mpt)))) ∧ ∃ v : Int32, ((rp_rv b mn (rp_we b mn (rp_sk b mn mpt))) ≤ v.toInt ∧ v.toInt ≤ 5000) ∧ v.toInt = rp_rv b mn (rp_rp b mn 0 5000 (rp_we b mn (rp_sk b mn mpt))) ∧ g1_274 = upd g1_250 (5 : Int32).toInt.toNat v)) := hp_275
                  obtain ⟨hP, hD⟩ := ty_shPD (w2 := ([(rf_MO mo mw ma mf m0 m1 mu mv u0 u1 iz th mb mn mpt1_271 (rp_sk b mn (rp_rp b mn 0 5000 (rp_we b mn (rp_sk b mn mpt)))) mwr1_272 mwk1_273 mlf men), (rf_RW ct 0 mb 800 b), (rf_RW ct 0 mf 958 g1_274)] ++ ws_270)) hP hD rfl
                  obtain ⟨hb_276, hc_277⟩ := hp_275
                  have hs_278 := rp_sk_b (b := b) (p := (rp_rp b mn 0 5000 (rp_we b mn (rp_sk b mn mpt)))) hmn.2 (by omega)
                  rcases hc_277 with ⟨rfl, hz_279⟩ | ⟨rfl, hz_280⟩
                  · refine lv_if_eq (tgt := 235) hx hb dX11_readStatement_213 (by decide) (fun _ => ?_) (fun hc => absurd (by decide) hc)
                    refine lv_iconst (v := 0) hx hb dX11_readStatement_235 (by decide) ?_
                    exact W.zret (v := 0) hx hb hr (by decide) (fun t ht hW => ⟨⟨0, (ws_270, mpt1_271, (rp_sk b mn (rp_rp b mn 0 5000 (rp_we b mn (rp_sk b mn mpt)))), mwr1_272, mwk1_273, g1_274), rfl, ⟨hT, ⟨by omega, Or.inl ⟨rfl, (rm_fB (rm_fe (rm_s3b hk_257 hz_279) (rm_t0 (N := N) (np := (g 10).toInt) (nc := (g 9).toInt) (rm_e_lim hz_74).1 (rm_e_lim hz_74).2.1 (rm_e_lim hz_74).2.2).1 (rm_t0 (N := N) (np := (g 10).toInt) (nc := (g 9).toInt) (rm_e_lim hz_74).1 (rm_e_lim hz_74).2.1 (rm_e_lim hz_74).2.2).2.1))⟩⟩⟩, by rw [ht]; exact hP, by rw [hAe]; exact hD⟩, hS.F ht⟩) hS.2.2 dX11_readStatement_236
                  · obtain ⟨⟨hk_281, hwk_282, hpt_283⟩, v_284, hv_285, hvv_286, hg_287⟩ := hz_280
                    have hb_288 := hb_276
                    subst hwk_282
                    subst hpt_283
                    have hz_291 : (5 : Int32).toInt = 5 := (by decide)
                    have hL_289 : rf_L g1_274 := by rw [hg_287]; exact rf_Lset hL_265 (by omega)
                    have hs_290 := rm_set1 hs_266.1 (rm_NL hN hL) (by decide) hg_287
                    refine lv_if_eq (tgt := 235) hx hb dX11_readStatement_213 (by decide) (fun hc => absurd hc (by decide)) (fun _ => ?_)
                    refine lv_aload_n hx hb dX11_readStatement_216 rfl (lv_at hl 0 rfl) ?_
                    refine lv_bipush (v := 6) hx hb dX11_readStatement_217 (by decide) ?_
                    refine lv_sipush (v := 250) hx hb dX11_readStatement_219 (by decide) ?_
                    refine lv_sipush (v := 1000) hx hb dX11_readStatement_222 (by decide) ?_
                    obtain ⟨hP, hD⟩ := ty_ipPD (E1 := []) (E2 := [(rf_MO mo mw ma mf m0 m1 mu mv u0 u1 iz th mb mn (rp_rp b mn (rp_rv b mn (rp_we b mn (rp_sk b mn mpt))) 5000 (rp_rp b mn 0 5000 (rp_we b mn (rp_sk b mn mpt)))) (rp_sk b mn (rp_rp b mn 0 5000 (rp_we b mn (rp_sk b mn mpt)))) mwr1_272 (0) mlf men), (rf_RW ct 0 mb 800 b), (rf_RW ct 0 mf 958 g1_274)]) hP hD rfl ty_mva
                    refine ty_Ki hP hD hS hA (va_runV (As := [.int 6, .int 250, .int 1000]) (rest := []) ⟨hx, hb, hml, hown, hts⟩ (m_X11_reads l D ct S ws_270 ph xx mo mw ma mf m0 m1 mu mv u0 u1 iz mb th mn (rp_rp b mn (rp_rv b mn (rp_we b mn (rp_sk b mn mpt))) 5000 (rp_rp b mn 0 5000 (rp_we b mn (rp_sk b mn mpt)))) (rp_sk b mn (rp_rp b mn 0 5000 (rp_we b mn (rp_sk b mn mpt)))) mwr1_272 mlf men b (6 : Int32) (250 : Int32) (1000 : Int32) g1_274 250 1000 _ hT hph hy1 hmn (by omega) (by decide) (by decide) (by decide)) (cm_V 3 hts kc_X11_reads ki_RX11 kl_RX11_140 kv_X11_reads kx_X11_reads kd_X11_reads ⟨Nat.le_of_ble_eq_true rfl, Nat.le_of_ble_eq_true rfl⟩) (ty_preE (ci := 11) (q0 := 0) hP hK hD hS hA hX rfl rfl) rfl rfl hl.1 rfl (lv_room (Nat.le_of_ble_eq_true rfl)) dX11_readStatement_225 ⟨Nat.le_of_ble_eq_true rfl, Nat.le_of_ble_eq_true rfl⟩) (fun r_292 u H locs hw_293 hP hD hS => ?_)
                    obtain ⟨ws_294, mpt1_295, mwr1_296, mwk1_297, g1_298⟩ := u
                    obtain ⟨hT, hp_299⟩ := hw_293
                    have hp_299 : ((rp_rp b mn (rp_rv b mn (rp_we b mn (rp_sk b mn mpt))) 5000 (rp_rp b mn 0 5000 (rp_we b mn (rp_sk b mn mpt)))).toInt ≤ mpt1_295.toInt ∧ mpt1_295.toInt ≤ mn.toInt) ∧ ((r_292 = 0 ∧ rm_f (rp_rk b mn 250 1000 (rp_rp b mn (rp_rv b mn (rp_we b mn (rp_sk b mn mpt))) 5000 (rp_rp b mn 0 5000 (rp_we b mn (rp_sk b mn mpt))))) (rp_rp b mn 250 1000 (rp_rp b mn (rp_rv b mn (rp_we b mn (rp_sk b mn mpt))) 5000 (rp_rp b mn 0 5000 (rp_we b mn (rp_sk b mn mpt))))) mwk1_297 mwr1_296) ∨ (r_292 = 1 ∧ (rp_rk b mn 250 1000 (rp_rp b mn (rp_rv b mn (rp_we b mn (rp_sk b mn mpt))) 5000 (rp_rp b mn 0 5000 (rp_we b mn (rp_sk b mn mpt)))) = 0 ∧ mwk1_297 = 0 ∧ mpt1_295 = rp_rp b mn 250 1000 (rp_rp b mn (rp_rv b mn (rp_we b mn (rp_sk b mn mpt))) 5000 (rp_rp b mn 0 5000 (rp_we b mn (rp_sk b mn mpt))))) ∧ ∃ v : Int32, (250 ≤ v.toInt ∧ v.toInt ≤ 1000) ∧ v.toInt = rp_rv b mn (rp_rp b mn (rp_rv b mn (rp_we b mn (rp_sk b mn mpt))) 5000 (rp_rp b mn 0 5000 (rp_we b mn (rp_sk b mn mpt)))) ∧ g1_298 = upd g1_274 (6 : Int32).toInt.toNat v)) := hp_299
                    obtain ⟨hP, hD⟩ := ty_shPD (w2 := ([(rf_MO mo mw ma mf m0 m1 mu mv u0 u1 iz th mb mn mpt1_295 (rp_sk b mn (rp_rp b mn (rp_rv b mn (rp_we b mn (rp_sk b mn mpt))) 5000 (rp_rp b mn 0 5000 (rp_we b mn (rp_sk b mn mpt))))) mwr1_296 mwk1_297 mlf men), (rf_RW ct 0 mb 800 b), (rf_RW ct 0 mf 958 g1_298)] ++ ws_294)) hP hD rfl
                    obtain ⟨hb_300, hc_301⟩ := hp_299
                    have hs_302 := rp_sk_b (b := b) (p := (rp_rp b mn (rp_rv b mn (rp_we b mn (rp_sk b mn mpt))) 5000 (rp_rp b mn 0 5000 (rp_we b mn (rp_sk b mn mpt))))) hmn.2 (by omega)
                    rcases hc_301 with ⟨rfl, hz_303⟩ | ⟨rfl, hz_304⟩
                    · refine lv_if_eq (tgt := 235) hx hb dX11_readStatement_228 (by decide) (fun _ => ?_) (fun hc => absurd (by decide) hc)
                      refine lv_iconst (v := 0) hx hb dX11_readStatement_235 (by decide) ?_
                      exact W.zret (v := 0) hx hb hr (by decide) (fun t ht hW => ⟨⟨0, (ws_294, mpt1_295, (rp_sk b mn (rp_rp b mn (rp_rv b mn (rp_we b mn (rp_sk b mn mpt))) 5000 (rp_rp b mn 0 5000 (rp_we b mn (rp_sk b mn mpt))))), mwr1_296, mwk1_297, g1_298), rfl, ⟨hT, ⟨by omega, Or.inl ⟨rfl, (rm_fB (rm_fe (rm_s3c hk_257 hk_281 hz_303) (rm_t0 (N := N) (np := (g 10).toInt) (nc := (g 9).toInt) (rm_e_lim hz_74).1 (rm_e_lim hz_74).2.1 (rm_e_lim hz_74).2.2).1 (rm_t0 (N := N) (np := (g 10).toInt) (nc := (g 9).toInt) (rm_e_lim hz_74).1 (rm_e_lim hz_74).2.1 (rm_e_lim hz_74).2.2).2.1))⟩⟩⟩, by rw [ht]; exact hP, by rw [hAe]; exact hD⟩, hS.F ht⟩) hS.2.2 dX11_readStatement_236
                    · obtain ⟨⟨hk_305, hwk_306, hpt_307⟩, v_308, hv_309, hvv_310, hg_311⟩ := hz_304
                      have hb_312 := hb_300
                      subst hwk_306
                      subst hpt_307
                      have hz_315 : (6 : Int32).toInt = 6 := (by decide)
                      have hL_313 : rf_L g1_298 := by rw [hg_311]; exact rf_Lset hL_289 (by omega)
                      have hs_314 := rm_set1 hs_290.1 (rm_NL hN hL) (by decide) hg_311
                      refine lv_if_eq (tgt := 235) hx hb dX11_readStatement_228 (by decide) (fun hc => absurd hc (by decide)) (fun _ => ?_)
                      refine lv_iconst (v := 1) hx hb dX11_readStatement_231 (by decide) ?_
                      refine lv_goto (tgt := 236) hx hb dX11_readStatement_232 (by decide) ?_
                      exact W.zret (v := 1) hx hb hr (by decide) (fun t ht hW => ⟨⟨1, (ws_294, (rp_rp b mn 250 1000 (rp_rp b mn (rp_rv b mn (rp_we b mn (rp_sk b mn mpt))) 5000 (rp_rp b mn 0 5000 (rp_we b mn (rp_sk b mn mpt))))), (rp_sk b mn (rp_rp b mn (rp_rv b mn (rp_we b mn (rp_sk b mn mpt))) 5000 (rp_rp b mn 0 5000 (rp_we b mn (rp_sk b mn mpt))))), mwr1_296, (0 : Int32), g1_298), rfl, ⟨hT, ⟨by omega, Or.inr ⟨rfl, (rm_t0 (N := N) (np := (g 10).toInt) (nc := (g 9).toInt) (rm_e_lim hz_74).1 (rm_e_lim hz_74).2.1 (rm_e_lim hz_74).2.2).1.trans (rm_s3z hk_257 hk_281 hk_305).1, rfl, (by rw [(rm_t0 (N := N) (np := (g 10).toInt) (nc := (g 9).toInt) (rm_e_lim hz_74).1 (rm_e_lim hz_74).2.1 (rm_e_lim hz_74).2.2).2.1]; exact congrArg (rp_sk b mn) (rm_s3z hk_257 hk_281 hk_305).2), hL_313, (by rw [(rm_t0 (N := N) (np := (g 10).toInt) (nc := (g 9).toInt) (rm_e_lim hz_74).1 (rm_e_lim hz_74).2.1 (rm_e_lim hz_74).2.2).2.2.1]; exact hs_314.1), (by rw [(hs_314.2.1.trans (hs_290.2.1.trans (hs_266.2.1.trans (rfl : g 9 = g 9)))), (rm_t0 (N := N) (np := (g 10).toInt) (nc := (g 9).toInt) (rm_e_lim hz_74).1 (rm_e_lim hz_74).2.1 (rm_e_lim hz_74).2.2).2.2.2.1]), (by rw [(hs_314.2.2.trans (hs_290.2.2.trans (hs_266.2.2.trans (rfl : g 10 = g 10)))), (rm_t0 (N := N) (np := (g 10).toInt) (nc := (g 9).toInt) (rm_e_lim hz_74).1 (rm_e_lim hz_74).2.1 (rm_e_lim hz_74).2.2).2.2.2.2]), (by unfold rq_t; rw [(rm_e_lim hz_74).1]; exact (rq_s1 (k := 6) (by decide) (rq_s1 (k := 5) (by decide) (rq_s1 (k := 4) (by decide) rfl hg_263 hvv_262) hg_287 hvv_286) hg_311 hvv_310).trans (rq_set_lim hz_74).symm)⟩⟩⟩, by rw [ht]; exact hP, by rw [hAe]; exact hD⟩, hS.F ht⟩) hS.2.2 dX11_readStatement_236
            · refine lv_if_eq (tgt := 171) hx hb dX11_readStatement_123 (by decide) (fun hc => absurd hc (by decide)) (fun _ => ?_)
              refine lv_aload_n hx hb dX11_readStatement_126 rfl (lv_at hl 0 rfl) ?_
              obtain ⟨hP, hD⟩ := ty_ipPD (E1 := [(rf_RW ct 0 mf 958 g)]) (E2 := [(rf_MO mo mw ma mf m0 m1 mu mv u0 u1 iz th mb mn (rp_sk b mn mpt) (rp_sk b mn mpt) mwr (0) mlf men), (rf_RW ct 0 mb 800 b)]) hP hD rfl ty_mva
              refine ty_Ki hP hD hS hA (va_runV (As := []) (rest := []) ⟨hx, hb, hml, hown, hts⟩ (m_X11_passes l D ct S ws_61 ph xx mo mw ma mf m0 m1 mu mv u0 u1 iz mb th mn (rp_sk b mn mpt) (rp_sk b mn mpt) mwr (0 : Int32) mlf men b _ hT hph hy1 hmn (by omega)) (cm_V 0 hts kc_X11_passes ki_RX11 kl_RX11_133 kv_X11_passes kx_X11_passes kd_X11_passes ⟨Nat.le_of_ble_eq_true rfl, Nat.le_of_ble_eq_true rfl⟩) (ty_preE (ci := 11) (q0 := 1) hP hK hD hS hA hX rfl rfl) rfl rfl hl.1 rfl (lv_room (Nat.le_of_ble_eq_true rfl)) dX11_readStatement_127 ⟨Nat.le_of_ble_eq_true rfl, Nat.le_of_ble_eq_true rfl⟩) (fun r_316 u H locs hw_317 hP hD hS => ?_)
              obtain ⟨ws_318, rfl⟩ : ∃ z, z = u := ⟨_, rfl⟩
              obtain ⟨hT, rfl⟩ := hw_317
              obtain ⟨hP, hD⟩ := ty_shPD (w2 := ([(rf_RW ct 0 mf 958 g), (rf_MO mo mw ma mf m0 m1 mu mv u0 u1 iz th mb mn (rp_we b mn (rp_sk b mn mpt)) (rp_sk b mn mpt) mwr (0) mlf men), (rf_RW ct 0 mb 800 b)] ++ ws_318)) hP hD rfl
              have hs_319 := rp_we_b (b := b) (p := (rp_sk b mn mpt)) hmn.2 (by omega)
              refine lv_if_eq (tgt := 169) hx hb dX11_readStatement_130 (by decide) (fun hc => absurd hc (by decide)) (fun _ => ?_)
              refine lv_aload_n hx hb dX11_readStatement_133 rfl (lv_at hl 0 rfl) ?_
              refine lv_iconst (v := 2) hx hb dX11_readStatement_134 (by decide) ?_
              refine lv_iconst (v := 1) hx hb dX11_readStatement_135 (by decide) ?_
              refine lv_sipush (v := 10000) hx hb dX11_readStatement_136 (by decide) ?_
              obtain ⟨hP, hD⟩ := ty_opPD (E1 := []) (E2 := [(rf_MO mo mw ma mf m0 m1 mu mv u0 u1 iz th mb mn (rp_we b mn (rp_sk b mn mpt)) (rp_sk b mn mpt) mwr (0) mlf men), (rf_RW ct 0 mb 800 b), (rf_RW ct 0 mf 958 g)]) (n := 3) [1, 2, 0] hP hD rfl rfl (by decide +kernel) ty_mva
              refine ty_Ki hP hD hS hA (va_runV (As := [.int 2, .int 1, .int 10000]) (rest := []) ⟨hx, hb, hml, hown, hts⟩ (m_X11_reads l D ct S ws_318 ph xx mo mw ma mf m0 m1 mu mv u0 u1 iz mb th mn (rp_we b mn (rp_sk b mn mpt)) (rp_sk b mn mpt) mwr mlf men b (2 : Int32) (1 : Int32) (10000 : Int32) g 1 10000 _ hT hph hy1 hmn (by omega) (by decide) (by decide) (by decide)) (cm_V 3 hts kc_X11_reads ki_RX11 kl_RX11_140 kv_X11_reads kx_X11_reads kd_X11_reads ⟨Nat.le_of_ble_eq_true rfl, Nat.le_of_ble_eq_true rfl⟩) (ty_preE (ci := 11) (q0 := 0) hP hK hD hS hA hX rfl rfl) rfl rfl hl.1 rfl (lv_room (Nat.le_of_ble_eq_true rfl)) dX11_readStatement_139 ⟨Nat.le_of_ble_eq_true rfl, Nat.le_of_ble_eq_true rfl⟩) (fun r_320 u H locs hw_321 hP hD hS => ?_)
              obtain ⟨ws_322, mpt1_323, mwr1_324, mwk1_325, g1_326⟩ := u
              obtain ⟨hT, hp_327⟩ := hw_321
              have hp_327 : ((rp_we b mn (rp_sk b mn mpt)).toInt ≤ mpt1_323.toInt ∧ mpt1_323.toInt ≤ mn.toInt) ∧ ((r_320 = 0 ∧ rm_f (rp_rk b mn 1 10000 (rp_we b mn (rp_sk b mn mpt))) (rp_rp b mn 1 10000 (rp_we b mn (rp_sk b mn mpt))) mwk1_325 mwr1_324) ∨ (r_320 = 1 ∧ (rp_rk b mn 1 10000 (rp_we b mn (rp_sk b mn mpt)) = 0 ∧ mwk1_325 = 0 ∧ mpt1_323 = rp_rp b mn 1 10000 (rp_we b mn (rp_sk b mn mpt))) ∧ ∃ v : Int32, (1 ≤ v.toInt ∧ v.toInt ≤ 10000) ∧ v.toInt = rp_rv b mn (rp_we b mn (rp_sk b mn mpt)) ∧ g1_326 = upd g (2 : Int32).toInt.toNat v)) := hp_327
              obtain ⟨hP, hD⟩ := ty_shPD (w2 := ([(rf_MO mo mw ma mf m0 m1 mu mv u0 u1 iz th mb mn mpt1_323 (rp_sk b mn (rp_we b mn (rp_sk b mn mpt))) mwr1_324 mwk1_325 mlf men), (rf_RW ct 0 mb 800 b), (rf_RW ct 0 mf 958 g1_326)] ++ ws_322)) hP hD rfl
              obtain ⟨hb_328, hc_329⟩ := hp_327
              have hs_330 := rp_sk_b (b := b) (p := (rp_we b mn (rp_sk b mn mpt))) hmn.2 (by omega)
              rcases hc_329 with ⟨rfl, hz_331⟩ | ⟨rfl, hz_332⟩
              · refine lv_if_eq (tgt := 169) hx hb dX11_readStatement_142 (by decide) (fun _ => ?_) (fun hc => absurd (by decide) hc)
                refine lv_iconst (v := 0) hx hb dX11_readStatement_169 (by decide) ?_
                exact W.zret (v := 0) hx hb hr (by decide) (fun t ht hW => ⟨⟨0, (ws_322, mpt1_323, (rp_sk b mn (rp_we b mn (rp_sk b mn mpt))), mwr1_324, mwk1_325, g1_326), rfl, ⟨hT, ⟨by omega, Or.inl ⟨rfl, (rm_fB (rm_fe (rm_f2 hz_331) (rm_t0 (N := N) (np := (g 10).toInt) (nc := (g 9).toInt) (rm_e_hea hz_64).1 (rm_e_hea hz_64).2.1 (rm_e_hea hz_64).2.2).1 (rm_t0 (N := N) (np := (g 10).toInt) (nc := (g 9).toInt) (rm_e_hea hz_64).1 (rm_e_hea hz_64).2.1 (rm_e_hea hz_64).2.2).2.1))⟩⟩⟩, by rw [ht]; exact hP, by rw [hAe]; exact hD⟩, hS.F ht⟩) hS.2.2 dX11_readStatement_170
              · obtain ⟨⟨hk_333, hwk_334, hpt_335⟩, v_336, hv_337, hvv_338, hg_339⟩ := hz_332
                have hb_340 := hb_328
                subst hwk_334
                subst hpt_335
                have hz_343 : (2 : Int32).toInt = 2 := (by decide)
                have hL_341 : rf_L g1_326 := by rw [hg_339]; exact rf_Lset hL (by omega)
                have hs_342 := rm_set1 hN (rm_NL hN hL) (by decide) hg_339
                refine lv_if_eq (tgt := 169) hx hb dX11_readStatement_142 (by decide) (fun hc => absurd hc (by decide)) (fun _ => ?_)
                refine lv_aload_n hx hb dX11_readStatement_145 rfl (lv_at hl 0 rfl) ?_
                refine lv_iconst (v := 3) hx hb dX11_readStatement_146 (by decide) ?_
                refine lv_iconst (v := 0) hx hb dX11_readStatement_147 (by decide) ?_
                refine lv_bipush (v := 100) hx hb dX11_readStatement_148 (by decide) ?_
                refine lv_aload_n hx hb dX11_readStatement_150 rfl (lv_at hl 0 rfl) ?_
                refine va_get (v := .ref mf) (D := D) (ci := 11) (C := RX11) (T := TX11) (N := 19) hx hb hts in_X11 hown hK hP 0 rfl rfl 2 (by decide) (hts _ kl_RX11_16) (fun _ h9 => h9) rfl dX11_readStatement_151 ?_
                refine lv_iconst (v := 2) hx hb dX11_readStatement_154 (by decide) ?_
                refine va_iald hx hb hK hP 2 0 rfl rfl (cm_vin (by decide)) dX11_readStatement_155 ?_
                refine cm_cst (y := (g1_326 2)) (by first | rfl | decide +kernel) ?_
                refine va_mmin hx hb (hml.trans hl.1.symm) hown (hts _ kl_RX11_184) (hts _ jm_min_s) (hts _ ki_RJ9) (hts _ jm_min_c) (Nat.le_of_ble_eq_true rfl) (Nat.le_of_ble_eq_true rfl) (Nat.le_of_ble_eq_true rfl) (Nat.le_of_ble_eq_true rfl) dX11_readStatement_156 ?_
                obtain ⟨hP, hD⟩ := ty_ipPD (E1 := []) (E2 := [(rf_MO mo mw ma mf m0 m1 mu mv u0 u1 iz th mb mn (rp_rp b mn 1 10000 (rp_we b mn (rp_sk b mn mpt))) (rp_sk b mn (rp_we b mn (rp_sk b mn mpt))) mwr1_324 (0) mlf men), (rf_RW ct 0 mb 800 b), (rf_RW ct 0 mf 958 g1_326)]) hP hD rfl ty_mva
                refine ty_Ki hP hD hS hA (va_runV (As := [.int 3, .int 0, .int (if (g1_326 2) < 100 then (g1_326 2) else 100)]) (rest := []) ⟨hx, hb, hml, hown, hts⟩ (m_X11_reads l D ct S ws_322 ph xx mo mw ma mf m0 m1 mu mv u0 u1 iz mb th mn (rp_rp b mn 1 10000 (rp_we b mn (rp_sk b mn mpt))) (rp_sk b mn (rp_we b mn (rp_sk b mn mpt))) mwr1_324 mlf men b (3 : Int32) (0 : Int32) (if (g1_326 2) < 100 then (g1_326 2) else 100) g1_326 0 (min 100 (rp_rv b mn (rp_we b mn (rp_sk b mn mpt)))) _ hT hph hy1 hmn (by omega) (by decide) (by decide) (rm_setm hg_339 (by decide) hvv_338)) (cm_V 3 hts kc_X11_reads ki_RX11 kl_RX11_140 kv_X11_reads kx_X11_reads kd_X11_reads ⟨Nat.le_of_ble_eq_true rfl, Nat.le_of_ble_eq_true rfl⟩) (ty_preE (ci := 11) (q0 := 0) hP hK hD hS hA hX rfl rfl) rfl rfl hl.1 rfl (lv_room (Nat.le_of_ble_eq_true rfl)) dX11_readStatement_159 ⟨Nat.le_of_ble_eq_true rfl, Nat.le_of_ble_eq_true rfl⟩) (fun r_344 u H locs hw_345 hP hD hS => ?_)
                obtain ⟨ws_346, mpt1_347, mwr1_348, mwk1_349, g1_350⟩ := u
                obtain ⟨hT, hp_351⟩ := hw_345
                have hp_351 : ((rp_rp b mn 1 10000 (rp_we b mn (rp_sk b mn mpt))).toInt ≤ mpt1_347.toInt ∧ mpt1_347.toInt ≤ mn.toInt) ∧ ((r_344 = 0 ∧ rm_f (rp_rk b mn 0 (min 100 (rp_rv b mn (rp_we b mn (rp_sk b mn mpt)))) (rp_rp b mn 1 10000 (rp_we b mn (rp_sk b mn mpt)))) (rp_rp b mn 0 (min 100 (rp_rv b mn (rp_we b mn (rp_sk b mn mpt)))) (rp_rp b mn 1 10000 (rp_we b mn (rp_sk b mn mpt)))) mwk1_349 mwr1_348) ∨ (r_344 = 1 ∧ (rp_rk b mn 0 (min 100 (rp_rv b mn (rp_we b mn (rp_sk b mn mpt)))) (rp_rp b mn 1 10000 (rp_we b mn (rp_sk b mn mpt))) = 0 ∧ mwk1_349 = 0 ∧ mpt1_347 = rp_rp b mn 0 (min 100 (rp_rv b mn (rp_we b mn (rp_sk b mn mpt)))) (rp_rp b mn 1 10000 (rp_we b mn (rp_sk b mn mpt)))) ∧ ∃ v : Int32, (0 ≤ v.toInt ∧ v.toInt ≤ (min 100 (rp_rv b mn (rp_we b mn (rp_sk b mn mpt))))) ∧ v.toInt = rp_rv b mn (rp_rp b mn 1 10000 (rp_we b mn (rp_sk b mn mpt))) ∧ g1_350 = upd g1_326 (3 : Int32).toInt.toNat v)) := hp_351
                obtain ⟨hP, hD⟩ := ty_shPD (w2 := ([(rf_MO mo mw ma mf m0 m1 mu mv u0 u1 iz th mb mn mpt1_347 (rp_sk b mn (rp_rp b mn 1 10000 (rp_we b mn (rp_sk b mn mpt)))) mwr1_348 mwk1_349 mlf men), (rf_RW ct 0 mb 800 b), (rf_RW ct 0 mf 958 g1_350)] ++ ws_346)) hP hD rfl
                obtain ⟨hb_352, hc_353⟩ := hp_351
                have hs_354 := rp_sk_b (b := b) (p := (rp_rp b mn 1 10000 (rp_we b mn (rp_sk b mn mpt)))) hmn.2 (by omega)
                rcases hc_353 with ⟨rfl, hz_355⟩ | ⟨rfl, hz_356⟩
                · refine lv_if_eq (tgt := 169) hx hb dX11_readStatement_162 (by decide) (fun _ => ?_) (fun hc => absurd (by decide) hc)
                  refine lv_iconst (v := 0) hx hb dX11_readStatement_169 (by decide) ?_
                  exact W.zret (v := 0) hx hb hr (by decide) (fun t ht hW => ⟨⟨0, (ws_346, mpt1_347, (rp_sk b mn (rp_rp b mn 1 10000 (rp_we b mn (rp_sk b mn mpt)))), mwr1_348, mwk1_349, g1_350), rfl, ⟨hT, ⟨by omega, Or.inl ⟨rfl, (rm_fB (rm_fe (rm_f3 hk_333 hz_355) (rm_t0 (N := N) (np := (g 10).toInt) (nc := (g 9).toInt) (rm_e_hea hz_64).1 (rm_e_hea hz_64).2.1 (rm_e_hea hz_64).2.2).1 (rm_t0 (N := N) (np := (g 10).toInt) (nc := (g 9).toInt) (rm_e_hea hz_64).1 (rm_e_hea hz_64).2.1 (rm_e_hea hz_64).2.2).2.1))⟩⟩⟩, by rw [ht]; exact hP, by rw [hAe]; exact hD⟩, hS.F ht⟩) hS.2.2 dX11_readStatement_170
                · obtain ⟨⟨hk_357, hwk_358, hpt_359⟩, v_360, hv_361, hvv_362, hg_363⟩ := hz_356
                  have hb_364 := hb_352
                  subst hwk_358
                  subst hpt_359
                  have hz_367 : (3 : Int32).toInt = 3 := (by decide)
                  have hL_365 : rf_L g1_350 := by rw [hg_363]; exact rf_Lset hL_341 (by omega)
                  have hs_366 := rm_set1 hs_342.1 (rm_NL hN hL) (by decide) hg_363
                  refine lv_if_eq (tgt := 169) hx hb dX11_readStatement_162 (by decide) (fun hc => absurd hc (by decide)) (fun _ => ?_)
                  refine lv_iconst (v := 1) hx hb dX11_readStatement_165 (by decide) ?_
                  refine lv_goto (tgt := 170) hx hb dX11_readStatement_166 (by decide) ?_
                  exact W.zret (v := 1) hx hb hr (by decide) (fun t ht hW => ⟨⟨1, (ws_346, (rp_rp b mn 0 (min 100 (rp_rv b mn (rp_we b mn (rp_sk b mn mpt)))) (rp_rp b mn 1 10000 (rp_we b mn (rp_sk b mn mpt)))), (rp_sk b mn (rp_rp b mn 1 10000 (rp_we b mn (rp_sk b mn mpt)))), mwr1_348, (0 : Int32), g1_350), rfl, ⟨hT, ⟨by omega, Or.inr ⟨rfl, (rm_t0 (N := N) (np := (g 10).toInt) (nc := (g 9).toInt) (rm_e_hea hz_64).1 (rm_e_hea hz_64).2.1 (rm_e_hea hz_64).2.2).1.trans (rm_g3 hk_333 hk_357).1, rfl, (by rw [(rm_t0 (N := N) (np := (g 10).toInt) (nc := (g 9).toInt) (rm_e_hea hz_64).1 (rm_e_hea hz_64).2.1 (rm_e_hea hz_64).2.2).2.1]; exact congrArg (rp_sk b mn) (rm_g3 hk_333 hk_357).2), hL_365, (by rw [(rm_t0 (N := N) (np := (g 10).toInt) (nc := (g 9).toInt) (rm_e_hea hz_64).1 (rm_e_hea hz_64).2.1 (rm_e_hea hz_64).2.2).2.2.1]; exact hs_366.1), (by rw [(hs_366.2.1.trans (hs_342.2.1.trans (rfl : g 9 = g 9))), (rm_t0 (N := N) (np := (g 10).toInt) (nc := (g 9).toInt) (rm_e_hea hz_64).1 (rm_e_hea hz_64).2.1 (rm_e_hea hz_64).2.2).2.2.2.1]), (by rw [(hs_366.2.2.trans (hs_342.2.2.trans (rfl : g 10 = g 10))), (rm_t0 (N := N) (np := (g 10).toInt) (nc := (g 9).toInt) (rm_e_hea hz_64).1 (rm_e_hea hz_64).2.1 (rm_e_hea hz_64).2.2).2.2.2.2]), (by unfold rq_t; rw [(rm_e_hea hz_64).1]; exact (rq_s1 (k := 3) (by decide) (rq_s1 (k := 2) (by decide) rfl hg_339 hvv_338) hg_363 hvv_362).trans (rq_set_hea hz_64).symm)⟩⟩⟩, by rw [ht]; exact hP, by rw [hAe]; exact hD⟩, hS.F ht⟩) hS.2.2 dX11_readStatement_170
          · refine lv_if_eq (tgt := 117) hx hb dX11_readStatement_89 (by decide) (fun hc => absurd hc (by decide)) (fun _ => ?_)
            refine lv_aload_n hx hb dX11_readStatement_92 rfl (lv_at hl 0 rfl) ?_
            obtain ⟨hP, hD⟩ := ty_ipPD (E1 := [(rf_RW ct 0 mf 958 g)]) (E2 := [(rf_MO mo mw ma mf m0 m1 mu mv u0 u1 iz th mb mn (rp_sk b mn mpt) (rp_sk b mn mpt) mwr (0) mlf men), (rf_RW ct 0 mb 800 b)]) hP hD rfl ty_mva
            refine ty_Ki hP hD hS hA (va_runV (As := []) (rest := []) ⟨hx, hb, hml, hown, hts⟩ (m_X11_passes l D ct S ws_51 ph xx mo mw ma mf m0 m1 mu mv u0 u1 iz mb th mn (rp_sk b mn mpt) (rp_sk b mn mpt) mwr (0 : Int32) mlf men b _ hT hph hy1 hmn (by omega)) (cm_V 0 hts kc_X11_passes ki_RX11 kl_RX11_133 kv_X11_passes kx_X11_passes kd_X11_passes ⟨Nat.le_of_ble_eq_true rfl, Nat.le_of_ble_eq_true rfl⟩) (ty_preE (ci := 11) (q0 := 1) hP hK hD hS hA hX rfl rfl) rfl rfl hl.1 rfl (lv_room (Nat.le_of_ble_eq_true rfl)) dX11_readStatement_93 ⟨Nat.le_of_ble_eq_true rfl, Nat.le_of_ble_eq_true rfl⟩) (fun r_368 u H locs hw_369 hP hD hS => ?_)
            obtain ⟨ws_370, rfl⟩ : ∃ z, z = u := ⟨_, rfl⟩
            obtain ⟨hT, rfl⟩ := hw_369
            obtain ⟨hP, hD⟩ := ty_shPD (w2 := ([(rf_RW ct 0 mf 958 g), (rf_MO mo mw ma mf m0 m1 mu mv u0 u1 iz th mb mn (rp_we b mn (rp_sk b mn mpt)) (rp_sk b mn mpt) mwr (0) mlf men), (rf_RW ct 0 mb 800 b)] ++ ws_370)) hP hD rfl
            have hs_371 := rp_we_b (b := b) (p := (rp_sk b mn mpt)) hmn.2 (by omega)
            refine lv_if_eq (tgt := 115) hx hb dX11_readStatement_96 (by decide) (fun hc => absurd hc (by decide)) (fun _ => ?_)
            refine lv_aload_n hx hb dX11_readStatement_99 rfl (lv_at hl 0 rfl) ?_
            refine lv_iconst (v := 1) hx hb dX11_readStatement_100 (by decide) ?_
            refine lv_bipush (v := 100) hx hb dX11_readStatement_101 (by decide) ?_
            refine lv_ldc hx hb hown (hts _ kl_RX11_181) dX11_readStatement_103 ?_
            obtain ⟨hP, hD⟩ := ty_opPD (E1 := []) (E2 := [(rf_MO mo mw ma mf m0 m1 mu mv u0 u1 iz th mb mn (rp_we b mn (rp_sk b mn mpt)) (rp_sk b mn mpt) mwr (0) mlf men), (rf_RW ct 0 mb 800 b), (rf_RW ct 0 mf 958 g)]) (n := 3) [1, 2, 0] hP hD rfl rfl (by decide +kernel) ty_mva
            refine ty_Ki hP hD hS hA (va_runV (As := [.int 1, .int 100, .int 1000000]) (rest := []) ⟨hx, hb, hml, hown, hts⟩ (m_X11_reads l D ct S ws_370 ph xx mo mw ma mf m0 m1 mu mv u0 u1 iz mb th mn (rp_we b mn (rp_sk b mn mpt)) (rp_sk b mn mpt) mwr mlf men b (1 : Int32) (100 : Int32) (1000000 : Int32) g 100 1000000 _ hT hph hy1 hmn (by omega) (by decide) (by decide) (by decide)) (cm_V 3 hts kc_X11_reads ki_RX11 kl_RX11_140 kv_X11_reads kx_X11_reads kd_X11_reads ⟨Nat.le_of_ble_eq_true rfl, Nat.le_of_ble_eq_true rfl⟩) (ty_preE (ci := 11) (q0 := 0) hP hK hD hS hA hX rfl rfl) rfl rfl hl.1 rfl (lv_room (Nat.le_of_ble_eq_true rfl)) dX11_readStatement_105 ⟨Nat.le_of_ble_eq_true rfl, Nat.le_of_ble_eq_true rfl⟩) (fun r_372 u H locs hw_373 hP hD hS => ?_)
            obtain ⟨ws_374, mpt1_375, mwr1_376, mwk1_377, g1_378⟩ := u
            obtain ⟨hT, hp_379⟩ := hw_373
            have hp_379 : ((rp_we b mn (rp_sk b mn mpt)).toInt ≤ mpt1_375.toInt ∧ mpt1_375.toInt ≤ mn.toInt) ∧ ((r_372 = 0 ∧ rm_f (rp_rk b mn 100 1000000 (rp_we b mn (rp_sk b mn mpt))) (rp_rp b mn 100 1000000 (rp_we b mn (rp_sk b mn mpt))) mwk1_377 mwr1_376) ∨ (r_372 = 1 ∧ (rp_rk b mn 100 1000000 (rp_we b mn (rp_sk b mn mpt)) = 0 ∧ mwk1_377 = 0 ∧ mpt1_375 = rp_rp b mn 100 1000000 (rp_we b mn (rp_sk b mn mpt))) ∧ ∃ v : Int32, (100 ≤ v.toInt ∧ v.toInt ≤ 1000000) ∧ v.toInt = rp_rv b mn (rp_we b mn (rp_sk b mn mpt)) ∧ g1_378 = upd g (1 : Int32).toInt.toNat v)) := hp_379
            obtain ⟨hP, hD⟩ := ty_shPD (w2 := ([(rf_MO mo mw ma mf m0 m1 mu mv u0 u1 iz th mb mn mpt1_375 (rp_sk b mn (rp_we b mn (rp_sk b mn mpt))) mwr1_376 mwk1_377 mlf men), (rf_RW ct 0 mb 800 b), (rf_RW ct 0 mf 958 g1_378)] ++ ws_374)) hP hD rfl
            obtain ⟨hb_380, hc_381⟩ := hp_379
            have hs_382 := rp_sk_b (b := b) (p := (rp_we b mn (rp_sk b mn mpt))) hmn.2 (by omega)
            rcases hc_381 with ⟨rfl, hz_383⟩ | ⟨rfl, hz_384⟩
            · refine lv_if_eq (tgt := 115) hx hb dX11_readStatement_108 (by decide) (fun _ => ?_) (fun hc => absurd (by decide) hc)
              refine lv_iconst (v := 0) hx hb dX11_readStatement_115 (by decide) ?_
              exact W.zret (v := 0) hx hb hr (by decide) (fun t ht hW => ⟨⟨0, (ws_374, mpt1_375, (rp_sk b mn (rp_we b mn (rp_sk b mn mpt))), mwr1_376, mwk1_377, g1_378), rfl, ⟨hT, ⟨by omega, Or.inl ⟨rfl, (rm_fB (rm_fe (hz_383) (rm_t0 (N := N) (np := (g 10).toInt) (nc := (g 9).toInt) (rm_e_fad hz_54).1 (rm_e_fad hz_54).2.1 (rm_e_fad hz_54).2.2).1 (rm_t0 (N := N) (np := (g 10).toInt) (nc := (g 9).toInt) (rm_e_fad hz_54).1 (rm_e_fad hz_54).2.1 (rm_e_fad hz_54).2.2).2.1))⟩⟩⟩, by rw [ht]; exact hP, by rw [hAe]; exact hD⟩, hS.F ht⟩) hS.2.2 dX11_readStatement_116
            · obtain ⟨⟨hk_385, hwk_386, hpt_387⟩, v_388, hv_389, hvv_390, hg_391⟩ := hz_384
              have hb_392 := hb_380
              subst hwk_386
              subst hpt_387
              have hz_395 : (1 : Int32).toInt = 1 := (by decide)
              have hL_393 : rf_L g1_378 := by rw [hg_391]; exact rf_Lset hL (by omega)
              have hs_394 := rm_set1 hN (rm_NL hN hL) (by decide) hg_391
              refine lv_if_eq (tgt := 115) hx hb dX11_readStatement_108 (by decide) (fun hc => absurd hc (by decide)) (fun _ => ?_)
              refine lv_iconst (v := 1) hx hb dX11_readStatement_111 (by decide) ?_
              refine lv_goto (tgt := 116) hx hb dX11_readStatement_112 (by decide) ?_
              exact W.zret (v := 1) hx hb hr (by decide) (fun t ht hW => ⟨⟨1, (ws_374, (rp_rp b mn 100 1000000 (rp_we b mn (rp_sk b mn mpt))), (rp_sk b mn (rp_we b mn (rp_sk b mn mpt))), mwr1_376, (0 : Int32), g1_378), rfl, ⟨hT, ⟨by omega, Or.inr ⟨rfl, (rm_t0 (N := N) (np := (g 10).toInt) (nc := (g 9).toInt) (rm_e_fad hz_54).1 (rm_e_fad hz_54).2.1 (rm_e_fad hz_54).2.2).1.trans hk_385, rfl, (by rw [(rm_t0 (N := N) (np := (g 10).toInt) (nc := (g 9).toInt) (rm_e_fad hz_54).1 (rm_e_fad hz_54).2.1 (rm_e_fad hz_54).2.2).2.1]), hL_393, (by rw [(rm_t0 (N := N) (np := (g 10).toInt) (nc := (g 9).toInt) (rm_e_fad hz_54).1 (rm_e_fad hz_54).2.1 (rm_e_fad hz_54).2.2).2.2.1]; exact hs_394.1), (by rw [(hs_394.2.1.trans (rfl : g 9 = g 9)), (rm_t0 (N := N) (np := (g 10).toInt) (nc := (g 9).toInt) (rm_e_fad hz_54).1 (rm_e_fad hz_54).2.1 (rm_e_fad hz_54).2.2).2.2.2.1]), (by rw [(hs_394.2.2.trans (rfl : g 10 = g 10)), (rm_t0 (N := N) (np := (g 10).toInt) (nc := (g 9).toInt) (rm_e_fad hz_54).1 (rm_e_fad hz_54).2.1 (rm_e_fad hz_54).2.2).2.2.2.2]), (by unfold rq_t; rw [(rm_e_fad hz_54).1]; exact (rq_s1 (k := 1) (by decide) rfl hg_391 hvv_390).trans (rq_set_fad hz_54).symm)⟩⟩⟩, by rw [ht]; exact hP, by rw [hAe]; exact hD⟩, hS.F ht⟩) hS.2.2 dX11_readStatement_116
        · refine lv_if_eq (tgt := 83) hx hb dX11_readStatement_53 (by decide) (fun hc => absurd hc (by decide)) (fun _ => ?_)
          refine lv_aload_n hx hb dX11_readStatement_56 rfl (lv_at hl 0 rfl) ?_
          obtain ⟨hP, hD⟩ := ty_ipPD (E1 := [(rf_RW ct 0 mf 958 g)]) (E2 := [(rf_MO mo mw ma mf m0 m1 mu mv u0 u1 iz th mb mn (rp_sk b mn mpt) (rp_sk b mn mpt) mwr (0) mlf men), (rf_RW ct 0 mb 800 b)]) hP hD rfl ty_mva
          refine ty_Ki hP hD hS hA (va_runV (As := []) (rest := []) ⟨hx, hb, hml, hown, hts⟩ (m_X11_passes l D ct S ws_41 ph xx mo mw ma mf m0 m1 mu mv u0 u1 iz mb th mn (rp_sk b mn mpt) (rp_sk b mn mpt) mwr (0 : Int32) mlf men b _ hT hph hy1 hmn (by omega)) (cm_V 0 hts kc_X11_passes ki_RX11 kl_RX11_133 kv_X11_passes kx_X11_passes kd_X11_passes ⟨Nat.le_of_ble_eq_true rfl, Nat.le_of_ble_eq_true rfl⟩) (ty_preE (ci := 11) (q0 := 1) hP hK hD hS hA hX rfl rfl) rfl rfl hl.1 rfl (lv_room (Nat.le_of_ble_eq_true rfl)) dX11_readStatement_57 ⟨Nat.le_of_ble_eq_true rfl, Nat.le_of_ble_eq_true rfl⟩) (fun r_396 u H locs hw_397 hP hD hS => ?_)
          obtain ⟨ws_398, rfl⟩ : ∃ z, z = u := ⟨_, rfl⟩
          obtain ⟨hT, rfl⟩ := hw_397
          obtain ⟨hP, hD⟩ := ty_shPD (w2 := ([(rf_RW ct 0 mf 958 g), (rf_MO mo mw ma mf m0 m1 mu mv u0 u1 iz th mb mn (rp_we b mn (rp_sk b mn mpt)) (rp_sk b mn mpt) mwr (0) mlf men), (rf_RW ct 0 mb 800 b)] ++ ws_398)) hP hD rfl
          have hs_399 := rp_we_b (b := b) (p := (rp_sk b mn mpt)) hmn.2 (by omega)
          refine lv_if_eq (tgt := 81) hx hb dX11_readStatement_60 (by decide) (fun hc => absurd hc (by decide)) (fun _ => ?_)
          refine lv_aload_n hx hb dX11_readStatement_63 rfl (lv_at hl 0 rfl) ?_
          refine lv_iconst (v := 0) hx hb dX11_readStatement_64 (by decide) ?_
          refine lv_sipush (v := 500) hx hb dX11_readStatement_65 (by decide) ?_
          refine lv_sipush (v := 1000) hx hb dX11_readStatement_68 (by decide) ?_
          obtain ⟨hP, hD⟩ := ty_opPD (E1 := []) (E2 := [(rf_MO mo mw ma mf m0 m1 mu mv u0 u1 iz th mb mn (rp_we b mn (rp_sk b mn mpt)) (rp_sk b mn mpt) mwr (0) mlf men), (rf_RW ct 0 mb 800 b), (rf_RW ct 0 mf 958 g)]) (n := 3) [1, 2, 0] hP hD rfl rfl (by decide +kernel) ty_mva
          refine ty_Ki hP hD hS hA (va_runV (As := [.int 0, .int 500, .int 1000]) (rest := []) ⟨hx, hb, hml, hown, hts⟩ (m_X11_reads l D ct S ws_398 ph xx mo mw ma mf m0 m1 mu mv u0 u1 iz mb th mn (rp_we b mn (rp_sk b mn mpt)) (rp_sk b mn mpt) mwr mlf men b (0 : Int32) (500 : Int32) (1000 : Int32) g 500 1000 _ hT hph hy1 hmn (by omega) (by decide) (by decide) (by decide)) (cm_V 3 hts kc_X11_reads ki_RX11 kl_RX11_140 kv_X11_reads kx_X11_reads kd_X11_reads ⟨Nat.le_of_ble_eq_true rfl, Nat.le_of_ble_eq_true rfl⟩) (ty_preE (ci := 11) (q0 := 0) hP hK hD hS hA hX rfl rfl) rfl rfl hl.1 rfl (lv_room (Nat.le_of_ble_eq_true rfl)) dX11_readStatement_71 ⟨Nat.le_of_ble_eq_true rfl, Nat.le_of_ble_eq_true rfl⟩) (fun r_400 u H locs hw_401 hP hD hS => ?_)
          obtain ⟨ws_402, mpt1_403, mwr1_404, mwk1_405, g1_406⟩ := u
          obtain ⟨hT, hp_407⟩ := hw_401
          have hp_407 : ((rp_we b mn (rp_sk b mn mpt)).toInt ≤ mpt1_403.toInt ∧ mpt1_403.toInt ≤ mn.toInt) ∧ ((r_400 = 0 ∧ rm_f (rp_rk b mn 500 1000 (rp_we b mn (rp_sk b mn mpt))) (rp_rp b mn 500 1000 (rp_we b mn (rp_sk b mn mpt))) mwk1_405 mwr1_404) ∨ (r_400 = 1 ∧ (rp_rk b mn 500 1000 (rp_we b mn (rp_sk b mn mpt)) = 0 ∧ mwk1_405 = 0 ∧ mpt1_403 = rp_rp b mn 500 1000 (rp_we b mn (rp_sk b mn mpt))) ∧ ∃ v : Int32, (500 ≤ v.toInt ∧ v.toInt ≤ 1000) ∧ v.toInt = rp_rv b mn (rp_we b mn (rp_sk b mn mpt)) ∧ g1_406 = upd g (0 : Int32).toInt.toNat v)) := hp_407
          obtain ⟨hP, hD⟩ := ty_shPD (w2 := ([(rf_MO mo mw ma mf m0 m1 mu mv u0 u1 iz th mb mn mpt1_403 (rp_sk b mn (rp_we b mn (rp_sk b mn mpt))) mwr1_404 mwk1_405 mlf men), (rf_RW ct 0 mb 800 b), (rf_RW ct 0 mf 958 g1_406)] ++ ws_402)) hP hD rfl
          obtain ⟨hb_408, hc_409⟩ := hp_407
          have hs_410 := rp_sk_b (b := b) (p := (rp_we b mn (rp_sk b mn mpt))) hmn.2 (by omega)
          rcases hc_409 with ⟨rfl, hz_411⟩ | ⟨rfl, hz_412⟩
          · refine lv_if_eq (tgt := 81) hx hb dX11_readStatement_74 (by decide) (fun _ => ?_) (fun hc => absurd (by decide) hc)
            refine lv_iconst (v := 0) hx hb dX11_readStatement_81 (by decide) ?_
            exact W.zret (v := 0) hx hb hr (by decide) (fun t ht hW => ⟨⟨0, (ws_402, mpt1_403, (rp_sk b mn (rp_we b mn (rp_sk b mn mpt))), mwr1_404, mwk1_405, g1_406), rfl, ⟨hT, ⟨by omega, Or.inl ⟨rfl, (rm_fB (rm_fe (hz_411) (rm_t0 (N := N) (np := (g 10).toInt) (nc := (g 9).toInt) (rm_e_eff hz_44).1 (rm_e_eff hz_44).2.1 (rm_e_eff hz_44).2.2).1 (rm_t0 (N := N) (np := (g 10).toInt) (nc := (g 9).toInt) (rm_e_eff hz_44).1 (rm_e_eff hz_44).2.1 (rm_e_eff hz_44).2.2).2.1))⟩⟩⟩, by rw [ht]; exact hP, by rw [hAe]; exact hD⟩, hS.F ht⟩) hS.2.2 dX11_readStatement_82
          · obtain ⟨⟨hk_413, hwk_414, hpt_415⟩, v_416, hv_417, hvv_418, hg_419⟩ := hz_412
            have hb_420 := hb_408
            subst hwk_414
            subst hpt_415
            have hz_423 : (0 : Int32).toInt = 0 := (by decide)
            have hL_421 : rf_L g1_406 := by rw [hg_419]; exact rf_Lset hL (by omega)
            have hs_422 := rm_set1 hN (rm_NL hN hL) (by decide) hg_419
            refine lv_if_eq (tgt := 81) hx hb dX11_readStatement_74 (by decide) (fun hc => absurd hc (by decide)) (fun _ => ?_)
            refine lv_iconst (v := 1) hx hb dX11_readStatement_77 (by decide) ?_
            refine lv_goto (tgt := 82) hx hb dX11_readStatement_78 (by decide) ?_
            exact W.zret (v := 1) hx hb hr (by decide) (fun t ht hW => ⟨⟨1, (ws_402, (rp_rp b mn 500 1000 (rp_we b mn (rp_sk b mn mpt))), (rp_sk b mn (rp_we b mn (rp_sk b mn mpt))), mwr1_404, (0 : Int32), g1_406), rfl, ⟨hT, ⟨by omega, Or.inr ⟨rfl, (rm_t0 (N := N) (np := (g 10).toInt) (nc := (g 9).toInt) (rm_e_eff hz_44).1 (rm_e_eff hz_44).2.1 (rm_e_eff hz_44).2.2).1.trans hk_413, rfl, (by rw [(rm_t0 (N := N) (np := (g 10).toInt) (nc := (g 9).toInt) (rm_e_eff hz_44).1 (rm_e_eff hz_44).2.1 (rm_e_eff hz_44).2.2).2.1]), hL_421, (by rw [(rm_t0 (N := N) (np := (g 10).toInt) (nc := (g 9).toInt) (rm_e_eff hz_44).1 (rm_e_eff hz_44).2.1 (rm_e_eff hz_44).2.2).2.2.1]; exact hs_422.1), (by rw [(hs_422.2.1.trans (rfl : g 9 = g 9)), (rm_t0 (N := N) (np := (g 10).toInt) (nc := (g 9).toInt) (rm_e_eff hz_44).1 (rm_e_eff hz_44).2.1 (rm_e_eff hz_44).2.2).2.2.2.1]), (by rw [(hs_422.2.2.trans (rfl : g 10 = g 10)), (rm_t0 (N := N) (np := (g 10).toInt) (nc := (g 9).toInt) (rm_e_eff hz_44).1 (rm_e_eff hz_44).2.1 (rm_e_eff hz_44).2.2).2.2.2.2]), (by unfold rq_t; rw [(rm_e_eff hz_44).1]; exact (rq_s1 (k := 0) (by decide) rfl hg_419 hvv_418).trans (rq_set_eff hz_44).symm)⟩⟩⟩, by rw [ht]; exact hP, by rw [hAe]; exact hD⟩, hS.F ht⟩) hS.2.2 dX11_readStatement_82
      · refine lv_if_eq (tgt := 47) hx hb dX11_readStatement_39 (by decide) (fun hc => absurd hc (by decide)) (fun _ => ?_)
        refine lv_aload_n hx hb dX11_readStatement_42 rfl (lv_at hl 0 rfl) ?_
        obtain ⟨hP, hD⟩ := ty_opPD (E1 := []) (E2 := [(rf_MO mo mw ma mf m0 m1 mu mv u0 u1 iz th mb mn (rp_sk b mn mpt) (rp_sk b mn mpt) mwr (0) mlf men), (rf_RW ct 0 mb 800 b), (rf_RW ct 0 mf 958 g)]) (n := 3) [1, 2, 0] hP hD rfl rfl (by decide +kernel) ty_mva
        refine ty_Ki hP hD hS hA (va_runV (As := []) (rest := []) ⟨hx, hb, hml, hown, hts⟩ (m_X11_readProgram l D ct S ws_31 ph xx mo mw ma mf m0 m1 mu mv u0 u1 iz mb th mn (rp_sk b mn mpt) (rp_sk b mn mpt) mwr mlf men b g N _ hT hph hy1 hmn (by omega) (by omega) hL hN) (cm_V 0 hts kc_X11_readProgram ki_RX11 kl_RX11_174 kv_X11_readProgram kx_X11_readProgram kd_X11_readProgram ⟨Nat.le_of_ble_eq_true rfl, Nat.le_of_ble_eq_true rfl⟩) (ty_preE (ci := 11) (q0 := 0) hP hK hD hS hA hX rfl rfl) rfl rfl hl.1 rfl (lv_room (Nat.le_of_ble_eq_true rfl)) dX11_readStatement_43 ⟨Nat.le_of_ble_eq_true rfl, Nat.le_of_ble_eq_true rfl⟩) (fun r_424 u H locs hw_425 hP hD hS => ?_)
        obtain ⟨ws_426, mpt1_427, mbg1_428, mwr1_429, mwk1_430, g1_431⟩ := u
        obtain ⟨hT, hp_432⟩ := hw_425
        have hp_432 : (((rp_sk b mn mpt).toInt ≤ mpt1_427.toInt ∧ mpt1_427.toInt ≤ mn.toInt) ∧ 0 ≤ mbg1_428.toInt ∧ mbg1_428.toInt ≤ mn.toInt) ∧ ((r_424 = 0 ∧ rm_B b mn (rp_gk b mn (g 10).toInt (rp_sk b mn mpt)) (rp_gp b mn (g 10).toInt (rp_sk b mn mpt)) mwk1_430 mwr1_429) ∨ (r_424 = 1 ∧ (rp_gk b mn (g 10).toInt (rp_sk b mn mpt)) = 0 ∧ mwk1_430 = 0 ∧ rp_sk b mn mpt1_427 = rp_sk b mn (rp_gp b mn (g 10).toInt (rp_sk b mn mpt)) ∧ rf_L g1_431 ∧ rm_N N g1_431 ∧ g1_431 9 = g 9 ∧ (g1_431 10).toInt = (g 10).toInt + 1 ∧ g1_431 = rq_prog b mn (rp_sk b mn mpt) g)) := hp_432
        obtain ⟨hP, hD⟩ := ty_shPD (w2 := ([(rf_MO mo mw ma mf m0 m1 mu mv u0 u1 iz th mb mn mpt1_427 mbg1_428 mwr1_429 mwk1_430 mlf men), (rf_RW ct 0 mb 800 b), (rf_RW ct 0 mf 958 g1_431)] ++ ws_426)) hP hD rfl
        obtain ⟨hb_433, hc_434⟩ := hp_432
        rcases hc_434 with ⟨rfl, hz_435⟩ | ⟨rfl, hz_436⟩
        · exact W.zret (v := 0) hx hb hr (by decide) (fun t ht hW => ⟨⟨0, (ws_426, mpt1_427, mbg1_428, mwr1_429, mwk1_430, g1_431), rfl, ⟨hT, ⟨by omega, Or.inl ⟨rfl, (by rw [(rp_t3 (show rp_wh b mn (rp_sk b mn mpt) = 3 from (((if_neg hz_13).trans (if_neg hz_23)).trans (if_pos hz_34)))).1, (rp_t3 (show rp_wh b mn (rp_sk b mn mpt) = 3 from (((if_neg hz_13).trans (if_neg hz_23)).trans (if_pos hz_34)))).2.1]; exact hz_435)⟩⟩⟩, by rw [ht]; exact hP, by rw [hAe]; exact hD⟩, hS.F ht⟩) hS.2.2 dX11_readStatement_46
        · obtain ⟨hq_437, hq_438, hq_439, hq_440, hq_441, hq_442, hq_443, hq_444⟩ := hz_436
          subst hq_438
          exact W.zret (v := 1) hx hb hr (by decide) (fun t ht hW => ⟨⟨1, (ws_426, mpt1_427, mbg1_428, mwr1_429, (0 : Int32), g1_431), rfl, ⟨hT, ⟨by omega, Or.inr ⟨rfl, (rp_t3 (N := N) (np := (g 10).toInt) (nc := (g 9).toInt) (show rp_wh b mn (rp_sk b mn mpt) = 3 from (((if_neg hz_13).trans (if_neg hz_23)).trans (if_pos hz_34)))).1.trans hq_437, rfl, (by rw [(rp_t3 (N := N) (np := (g 10).toInt) (nc := (g 9).toInt) (show rp_wh b mn (rp_sk b mn mpt) = 3 from (((if_neg hz_13).trans (if_neg hz_23)).trans (if_pos hz_34)))).2.1]; exact hq_439), hq_440, (by rw [(rp_t3 (N := N) (np := (g 10).toInt) (nc := (g 9).toInt) (show rp_wh b mn (rp_sk b mn mpt) = 3 from (((if_neg hz_13).trans (if_neg hz_23)).trans (if_pos hz_34)))).2.2.1]; exact hq_441), (by rw [hq_442, (rp_t3 (N := N) (np := (g 10).toInt) (nc := (g 9).toInt) (show rp_wh b mn (rp_sk b mn mpt) = 3 from (((if_neg hz_13).trans (if_neg hz_23)).trans (if_pos hz_34)))).2.2.2.1]), (by rw [hq_443, (rp_t3 (N := N) (np := (g 10).toInt) (nc := (g 9).toInt) (show rp_wh b mn (rp_sk b mn mpt) = 3 from (((if_neg hz_13).trans (if_neg hz_23)).trans (if_pos hz_34)))).2.2.2.2]), (by unfold rq_t; rw [(show rp_wh b mn (rp_sk b mn mpt) = 3 from (((if_neg hz_13).trans (if_neg hz_23)).trans (if_pos hz_34)))]; exact hq_444)⟩⟩⟩, by rw [ht]; exact hP, by rw [hAe]; exact hD⟩, hS.F ht⟩) hS.2.2 dX11_readStatement_46
    · refine lv_if_eq (tgt := 33) hx hb dX11_readStatement_25 (by decide) (fun hc => absurd hc (by decide)) (fun _ => ?_)
      refine lv_aload_n hx hb dX11_readStatement_28 rfl (lv_at hl 0 rfl) ?_
      obtain ⟨hP, hD⟩ := ty_opPD (E1 := []) (E2 := [(rf_MO mo mw ma mf m0 m1 mu mv u0 u1 iz th mb mn (rp_sk b mn mpt) (rp_sk b mn mpt) mwr (0) mlf men), (rf_RW ct 0 mb 800 b), (rf_RW ct 0 mf 958 g)]) (n := 3) [1, 2, 0] hP hD rfl rfl (by decide +kernel) ty_mva
      refine ty_Ki hP hD hS hA (va_runV (As := []) (rest := []) ⟨hx, hb, hml, hown, hts⟩ (m_X11_readCell l D ct S ws_21 ph xx mo mw ma mf m0 m1 mu mv u0 u1 iz mb th mn (rp_sk b mn mpt) (rp_sk b mn mpt) mwr mlf men b g N _ hT hph hy1 hmn (by omega) (by omega) hL hN) (cm_V 0 hts kc_X11_readCell ki_RX11 kl_RX11_169 kv_X11_readCell kx_X11_readCell kd_X11_readCell ⟨Nat.le_of_ble_eq_true rfl, Nat.le_of_ble_eq_true rfl⟩) (ty_preE (ci := 11) (q0 := 0) hP hK hD hS hA hX rfl rfl) rfl rfl hl.1 rfl (lv_room (Nat.le_of_ble_eq_true rfl)) dX11_readStatement_29 ⟨Nat.le_of_ble_eq_true rfl, Nat.le_of_ble_eq_true rfl⟩) (fun r_445 u H locs hw_446 hP hD hS => ?_)
      obtain ⟨ws_447, mpt1_448, mbg1_449, mwr1_450, mwk1_451, g1_452⟩ := u
      obtain ⟨hT, hp_453⟩ := hw_446
      have hp_453 : (((rp_sk b mn mpt).toInt ≤ mpt1_448.toInt ∧ mpt1_448.toInt ≤ mn.toInt) ∧ 0 ≤ mbg1_449.toInt ∧ mbg1_449.toInt ≤ mn.toInt) ∧ ((r_445 = 0 ∧ rm_B b mn (rp_lk b mn N (g 9).toInt (rp_sk b mn mpt)) (rp_lp b mn N (g 9).toInt (rp_sk b mn mpt)) mwk1_451 mwr1_450) ∨ (r_445 = 1 ∧ (rp_lk b mn N (g 9).toInt (rp_sk b mn mpt)) = 0 ∧ mwk1_451 = 0 ∧ rp_sk b mn mpt1_448 = rp_sk b mn (rp_lp b mn N (g 9).toInt (rp_sk b mn mpt)) ∧ rf_L g1_452 ∧ rm_N N g1_452 ∧ (g1_452 9).toInt = (g 9).toInt + 1 ∧ g1_452 10 = g 10 ∧ g1_452 = rq_cell b mn N (rp_sk b mn mpt) g)) := hp_453
      obtain ⟨hP, hD⟩ := ty_shPD (w2 := ([(rf_MO mo mw ma mf m0 m1 mu mv u0 u1 iz th mb mn mpt1_448 mbg1_449 mwr1_450 mwk1_451 mlf men), (rf_RW ct 0 mb 800 b), (rf_RW ct 0 mf 958 g1_452)] ++ ws_447)) hP hD rfl
      obtain ⟨hb_454, hc_455⟩ := hp_453
      rcases hc_455 with ⟨rfl, hz_456⟩ | ⟨rfl, hz_457⟩
      · exact W.zret (v := 0) hx hb hr (by decide) (fun t ht hW => ⟨⟨0, (ws_447, mpt1_448, mbg1_449, mwr1_450, mwk1_451, g1_452), rfl, ⟨hT, ⟨by omega, Or.inl ⟨rfl, (by rw [(rp_t2 (show rp_wh b mn (rp_sk b mn mpt) = 2 from ((if_neg hz_13).trans (if_pos hz_24)))).1, (rp_t2 (show rp_wh b mn (rp_sk b mn mpt) = 2 from ((if_neg hz_13).trans (if_pos hz_24)))).2.1]; exact hz_456)⟩⟩⟩, by rw [ht]; exact hP, by rw [hAe]; exact hD⟩, hS.F ht⟩) hS.2.2 dX11_readStatement_32
      · obtain ⟨hq_458, hq_459, hq_460, hq_461, hq_462, hq_463, hq_464, hq_465⟩ := hz_457
        subst hq_459
        exact W.zret (v := 1) hx hb hr (by decide) (fun t ht hW => ⟨⟨1, (ws_447, mpt1_448, mbg1_449, mwr1_450, (0 : Int32), g1_452), rfl, ⟨hT, ⟨by omega, Or.inr ⟨rfl, (rp_t2 (N := N) (np := (g 10).toInt) (nc := (g 9).toInt) (show rp_wh b mn (rp_sk b mn mpt) = 2 from ((if_neg hz_13).trans (if_pos hz_24)))).1.trans hq_458, rfl, (by rw [(rp_t2 (N := N) (np := (g 10).toInt) (nc := (g 9).toInt) (show rp_wh b mn (rp_sk b mn mpt) = 2 from ((if_neg hz_13).trans (if_pos hz_24)))).2.1]; exact hq_460), hq_461, (by rw [(rp_t2 (N := N) (np := (g 10).toInt) (nc := (g 9).toInt) (show rp_wh b mn (rp_sk b mn mpt) = 2 from ((if_neg hz_13).trans (if_pos hz_24)))).2.2.1]; exact hq_462), (by rw [hq_463, (rp_t2 (N := N) (np := (g 10).toInt) (nc := (g 9).toInt) (show rp_wh b mn (rp_sk b mn mpt) = 2 from ((if_neg hz_13).trans (if_pos hz_24)))).2.2.2.1]), (by rw [hq_464, (rp_t2 (N := N) (np := (g 10).toInt) (nc := (g 9).toInt) (show rp_wh b mn (rp_sk b mn mpt) = 2 from ((if_neg hz_13).trans (if_pos hz_24)))).2.2.2.2]), (by unfold rq_t; rw [(show rp_wh b mn (rp_sk b mn mpt) = 2 from ((if_neg hz_13).trans (if_pos hz_24)))]; exact hq_465)⟩⟩⟩, by rw [ht]; exact hP, by rw [hAe]; exact hD⟩, hS.F ht⟩) hS.2.2 dX11_readStatement_32
  · refine lv_if_eq (tgt := 19) hx hb dX11_readStatement_11 (by decide) (fun hc => absurd hc (by decide)) (fun _ => ?_)
    refine lv_aload_n hx hb dX11_readStatement_14 rfl (lv_at hl 0 rfl) ?_
    obtain ⟨hP, hD⟩ := ty_opPD (E1 := []) (E2 := [(rf_MO mo mw ma mf m0 m1 mu mv u0 u1 iz th mb mn (rp_sk b mn mpt) (rp_sk b mn mpt) mwr (0) mlf men), (rf_RW ct 0 mb 800 b), (rf_RW ct 0 mf 958 g)]) (n := 3) [1, 2, 0] hP hD rfl rfl (by decide +kernel) ty_mva
    refine ty_Ki hP hD hS hA (va_runV (As := []) (rest := []) ⟨hx, hb, hml, hown, hts⟩ (m_X11_readCurve l D ct S ws_11 ph xx mo mw ma mf m0 m1 mu mv u0 u1 iz mb th mn (rp_sk b mn mpt) (rp_sk b mn mpt) mwr mlf men b g N _ hT hph hy1 hmn (by omega) (by omega) hL hN) (cm_V 0 hts kc_X11_readCurve ki_RX11 kl_RX11_164 kv_X11_readCurve kx_X11_readCurve kd_X11_readCurve ⟨Nat.le_of_ble_eq_true rfl, Nat.le_of_ble_eq_true rfl⟩) (ty_preE (ci := 11) (q0 := 0) hP hK hD hS hA hX rfl rfl) rfl rfl hl.1 rfl (lv_room (Nat.le_of_ble_eq_true rfl)) dX11_readStatement_15 ⟨Nat.le_of_ble_eq_true rfl, Nat.le_of_ble_eq_true rfl⟩) (fun r_466 u H locs hw_467 hP hD hS => ?_)
    obtain ⟨ws_468, mpt1_469, mbg1_470, mwr1_471, mwk1_472, g1_473⟩ := u
    obtain ⟨hT, hp_474⟩ := hw_467
    have hp_474 : (((rp_sk b mn mpt).toInt ≤ mpt1_469.toInt ∧ mpt1_469.toInt ≤ mn.toInt) ∧ 0 ≤ mbg1_470.toInt ∧ mbg1_470.toInt ≤ mn.toInt) ∧ ((r_466 = 0 ∧ rm_B b mn (rp_ck b mn N (rp_sk b mn mpt)) (rp_cp b mn N (rp_sk b mn mpt)) mwk1_472 mwr1_471) ∨ (r_466 = 1 ∧ (rp_ck b mn N (rp_sk b mn mpt)) = 0 ∧ mwk1_472 = 0 ∧ rp_sk b mn mpt1_469 = rp_sk b mn (rp_cp b mn N (rp_sk b mn mpt)) ∧ rf_L g1_473 ∧ rm_N (N ++ [rp_w b mn (rp_q2 b mn (rp_sk b mn mpt))]) g1_473 ∧ g1_473 9 = g 9 ∧ g1_473 10 = g 10 ∧ g1_473 = rq_curve b mn (rp_sk b mn mpt) g)) := hp_474
    obtain ⟨hP, hD⟩ := ty_shPD (w2 := ([(rf_MO mo mw ma mf m0 m1 mu mv u0 u1 iz th mb mn mpt1_469 mbg1_470 mwr1_471 mwk1_472 mlf men), (rf_RW ct 0 mb 800 b), (rf_RW ct 0 mf 958 g1_473)] ++ ws_468)) hP hD rfl
    obtain ⟨hb_475, hc_476⟩ := hp_474
    rcases hc_476 with ⟨rfl, hz_477⟩ | ⟨rfl, hz_478⟩
    · exact W.zret (v := 0) hx hb hr (by decide) (fun t ht hW => ⟨⟨0, (ws_468, mpt1_469, mbg1_470, mwr1_471, mwk1_472, g1_473), rfl, ⟨hT, ⟨by omega, Or.inl ⟨rfl, (by rw [(rp_t1 (show rp_wh b mn (rp_sk b mn mpt) = 1 from (if_pos hz_14))).1, (rp_t1 (show rp_wh b mn (rp_sk b mn mpt) = 1 from (if_pos hz_14))).2.1]; exact hz_477)⟩⟩⟩, by rw [ht]; exact hP, by rw [hAe]; exact hD⟩, hS.F ht⟩) hS.2.2 dX11_readStatement_18
    · obtain ⟨hq_479, hq_480, hq_481, hq_482, hq_483, hq_484, hq_485, hq_486⟩ := hz_478
      subst hq_480
      exact W.zret (v := 1) hx hb hr (by decide) (fun t ht hW => ⟨⟨1, (ws_468, mpt1_469, mbg1_470, mwr1_471, (0 : Int32), g1_473), rfl, ⟨hT, ⟨by omega, Or.inr ⟨rfl, (rp_t1 (N := N) (np := (g 10).toInt) (nc := (g 9).toInt) (show rp_wh b mn (rp_sk b mn mpt) = 1 from (if_pos hz_14))).1.trans hq_479, rfl, (by rw [(rp_t1 (N := N) (np := (g 10).toInt) (nc := (g 9).toInt) (show rp_wh b mn (rp_sk b mn mpt) = 1 from (if_pos hz_14))).2.1]; exact hq_481), hq_482, (by rw [(rp_t1 (N := N) (np := (g 10).toInt) (nc := (g 9).toInt) (show rp_wh b mn (rp_sk b mn mpt) = 1 from (if_pos hz_14))).2.2.1]; exact hq_483), (by rw [hq_484, (rp_t1 (N := N) (np := (g 10).toInt) (nc := (g 9).toInt) (show rp_wh b mn (rp_sk b mn mpt) = 1 from (if_pos hz_14))).2.2.2.1]), (by rw [hq_485, (rp_t1 (N := N) (np := (g 10).toInt) (nc := (g 9).toInt) (show rp_wh b mn (rp_sk b mn mpt) = 1 from (if_pos hz_14))).2.2.2.2]), (by unfold rq_t; rw [(show rp_wh b mn (rp_sk b mn mpt) = 1 from (if_pos hz_14))]; exact hq_486)⟩⟩⟩, by rw [ht]; exact hP, by rw [hAe]; exact hD⟩, hS.F ht⟩) hS.2.2 dX11_readStatement_18
